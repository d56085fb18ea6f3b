/** Promises 6 to 9: what is told of the night, strips, reapers, owners. */
public final class TellTest {
    public static void main(String[] args) {
        Check c = new Check();
        MoonReapers x = Check.told("night 5;strip 10 2;strip 4 0;strip 0 3;reaper 3 2 0;reaper 9 1 2;reaper 5 0 0;"
                + "cloud 0;cloud 4;thistle 0;");
        int[] rules = {5, 0, 17, 3, 3, MoonReapers.NONE, 14};
        for (int what = 0; what < rules.length; what++) {
            c.due("rule(" + what + ")", x.rule(what), rules[what]);
        }
        c.due("rule(-1)", x.rule(-1), MoonReapers.BAD);
        c.due("rule(7)", x.rule(7), MoonReapers.BAD);
        strips(c, x);
        reapers(c, x);
        c.due("go(1)", x.go(1), 2 + 4);
        c.due("HOUR", x.rule(1), 1);
        c.due("THE BRIDE", x.rule(5), 1);
        c.due("YARDS in all", x.rule(6), 8);
        c.due("harvest(2)", x.harvest(2), 2);
        c.due("harvest(0)", x.harvest(0), 4);
        c.due("harvest(1)", x.harvest(1), 0);
        c.due("harvest(3)", x.harvest(3), 0);
        c.due("harvest(4)", x.harvest(4), MoonReapers.BAD);
        c.due("harvest(-1)", x.harvest(-1), MoonReapers.BAD);
        c.due("reaper 0's OIL", x.reaper(0, 1), 1);
        c.due("reaper 0's EDGE", x.reaper(0, 2), 2);
        c.due("reaper 0's WAGE", x.reaper(0, 4), 2);
        c.due("reaper 1 went to", x.reaper(1, 3), 1);
        c.due("reaper 1's WAGE", x.reaper(1, 4), 4);
        c.due("reaper 2 waited: EDGE", x.reaper(2, 2), 3);
        c.finish();
    }

    private static void strips(Check c, MoonReapers x) {
        int[][] due = {{10, 2, 1, 5}, {4, 0, 0, 0}, {0, 3, 0, 2}};
        for (int i = 0; i < 3; i++) {
            for (int what = 0; what < 4; what++) {
                c.due("strip(" + i + ", " + what + ")", x.strip(i, what), due[i][what]);
            }
        }
        c.due("strip(3, 0)", x.strip(3, 0), MoonReapers.BAD);
        c.due("strip(-1, 0)", x.strip(-1, 0), MoonReapers.BAD);
        c.due("strip(0, 4)", x.strip(0, 4), MoonReapers.BAD);
        c.due("strip(0, -1)", x.strip(0, -1), MoonReapers.BAD);
        c.due("strip(7, 0)", x.strip(7, 0), MoonReapers.BAD);
    }

    private static void reapers(Check c, MoonReapers x) {
        int[][] due = {{3, 2, 3, 0, 0}, {9, 1, 3, 2, 0}, {5, 0, 3, 0, 0}};
        for (int r = 0; r < 3; r++) {
            for (int what = 0; what < 5; what++) {
                c.due("reaper(" + r + ", " + what + ")", x.reaper(r, what), due[r][what]);
            }
        }
        c.due("reaper(3, 0)", x.reaper(3, 0), MoonReapers.BAD);
        c.due("reaper(-1, 0)", x.reaper(-1, 0), MoonReapers.BAD);
        c.due("reaper(0, 5)", x.reaper(0, 5), MoonReapers.BAD);
        c.due("reaper(0, -1)", x.reaper(0, -1), MoonReapers.BAD);
    }
}

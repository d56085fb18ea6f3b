/** Promise 36: nights by a seed. */
public final class DriftTest {
    public static void main(String[] args) {
        Check c = new Check();
        MoonReapers x = Check.told("night 1;strip 9 0;reaper 4 3 0;cloud 0;");
        // 0 becomes 12345, bits 16 to 30 of which are 0
        c.due("drift(0, 1, 0)", x.drift(0, 1, 0), 5);
        c.due("drift(0, 1, 1)", x.drift(0, 1, 1), 2);
        c.due("drift(0, 0, 1): no clouds, though told", x.drift(0, 0, 1), 3);
        // 1 becomes 1103527590, bits 16 to 30 of which are 16838: 8 by 10
        c.due("drift(1, 8, 1)", x.drift(1, 8, 1), 3);
        c.due("drift(1, 9, 1)", x.drift(1, 9, 1), 2);
        c.due("drift(1, 10, 1)", x.drift(1, 10, 1), 2);
        x.fill(0, 0);
        c.due("he waits", x.drift(1, 9, 0), 9);
        c.due("he cuts", x.drift(1, 8, 0), 5);
        c.due("HOUR", x.rule(1), 0);
        c.due("drift(1, -1, 0)", x.drift(1, -1, 0), MoonReapers.BAD);
        c.due("drift(1, 11, 0)", x.drift(1, 11, 0), MoonReapers.BAD);
        c.due("drift(1, 5, 2)", x.drift(1, 5, 2), MoonReapers.BAD);
        c.due("drift(1, 5, -1)", x.drift(1, 5, -1), MoonReapers.BAD);
        againstHours(c);
        x.go(1);
        c.due("the night is over", x.drift(1, 10, 0), 9);
        c.finish();
    }

    /** The same clouds told by cloud(), then the hours gone. */
    private static void againstHours(Check c) {
        int[] seeds = {0, 1, -1, 77, 123456789, Integer.MIN_VALUE, Integer.MAX_VALUE};
        for (int seed : seeds) {
            for (int v = 0; v <= 10; v++) {
                MoonReapers x = Check.told("night 12;strip 40 0;strip 30 1;reaper 4 3 0;reaper 7 2 1;cloud 2;");
                x.go(2);
                int stand = x.drift(seed, v, 0);
                int oil = x.drift(seed, v, 1);
                long s = seed & 0xffffffffL;
                for (int t = 2; t < 12; t++) {
                    s = (s * 1103515245L + 12345L) & 0xffffffffL;
                    x.cloud(t, (s / 65536) % 32768 % 10 < v);
                }
                x.go(10);
                c.due("drift(" + seed + ", " + v + ", 0)", stand, x.rule(6));
                c.due("drift(" + seed + ", " + v + ", 1)", oil, x.count(2));
            }
        }
    }
}

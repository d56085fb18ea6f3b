/** Promises 23 to 26: where to begin, how much oil. */
public final class BeginTest {
    private static final Check C = new Check();
    private static final int BAD = MoonReapers.BAD, NONE = MoonReapers.NONE;

    public static void main(String[] args) {
        begin();
        best();
        oil();
        least();
        C.finish();
    }

    private static void begin() {
        MoonReapers x = Check.told("night 6;strip 9 0;strip 4 0;strip 8 0;reaper 4 0 0;reaper 3 0 0;");
        C.due("done(0)", x.done(0), 5);
        // by 4 and 4 on strip 2 and 4 on strip 1, and 3 and 3 and 3 on strip 0; from strip 1 he would go to strip 0
        C.due("begin(0)", x.begin(0), 3);
        C.due("begin(10)", x.begin(10), 2);
        C.due("begin(11)", x.begin(11), 0);
        C.due("begin(12)", x.begin(12), BAD);
        C.due("begin(9)", x.begin(9), BAD);
        C.due("begin(1)", x.begin(1), BAD);
        C.due("begin(-1)", x.begin(-1), BAD);
        C.due("begin(MIN)", x.begin(Integer.MIN_VALUE), BAD);
        C.due("nobody went", x.reaper(0, 3), 0);
        x.send(0, x.begin(10));
        x.send(1, x.begin(11));
        C.due("so it is", x.done(0), 3);
        MoonReapers none = Check.told("night 1;strip 9 0;reaper 4 0 0;");
        C.due("by none", none.begin(0), NONE);
        C.due("by none", none.begin(10), NONE);
        C.due("by none: BAD comes first", none.begin(11), BAD);
        MoonReapers held = Check.told("night 2;strip 9 0;reaper 9 0 0;thistle 0;");
        C.due("thistles hold up", held.begin(0), 2);
        MoonReapers hold = Check.told("night 1;strip 9 0;reaper 9 0 0;thistle 0;");
        C.due("thistles hold up too long", hold.begin(0), NONE);
        lastBeginning();
        C.due("no strips", new MoonReapers().begin(0), MoonReapers.STATE);
        C.due("no reapers", Check.told("strip 0 0;").begin(0), MoonReapers.STATE);
        MoonReapers now = Check.told("night 2;strip 0 0;strip 0 0;reaper 1 0 1;reaper 1 0 1;");
        C.due("done already", now.begin(0), 0);
        C.due("the first beginning", now.begin(10), 0);
        C.due("the first beginning", now.begin(11), 0);
        now.go(2);
        C.due("done, the night over", now.begin(0), 0);
        now.grow(0, 1);
        C.due("the night is over", now.begin(0), NONE);
    }

    /** Of 2401 beginnings only the last one is done in three hours: 61 yards, of 63 that can be cut. */
    private static void lastBeginning() {
        MoonReapers x = Check.told("night 3;strip 0 0;strip 1 0;strip 0 0;strip 0 0;strip 29 0;strip 6 0;strip 25 0;"
                + "reaper 4 0 0;reaper 6 0 0;reaper 8 0 0;reaper 3 0 0;");
        C.due("the last beginning", x.begin(0), 3);
        for (int r = 0; r < 4; r++) {
            C.due("the last beginning", x.begin(10 + r), 6);
        }
    }

    private static void best() {
        MoonReapers x = Check.told("night 2;strip 3 0;strip 9 0;strip 9 0;reaper 9 0 0;reaper 3 0 0;");
        C.due("left()", x.left(), 6);
        C.due("best(0, 0)", x.best(0, 0), 1);
        C.due("best(0, 1)", x.best(0, 1), 0);
        C.due("best(1, 0), out of the first one's way", x.best(1, 0), 2);
        C.due("best(1, 1)", x.best(1, 1), 3);
        C.due("best(2, 0)", x.best(2, 0), BAD);
        C.due("best(-1, 0)", x.best(-1, 0), BAD);
        C.due("best(0, 2)", x.best(0, 2), BAD);
        C.due("best(0, -1)", x.best(0, -1), BAD);
        C.due("nobody went", x.reaper(0, 3), 0);
        C.due("of several the first", Check.told("night 2;strip 9 0;strip 9 0;reaper 3 0 1;").best(0, 0), 0);
        C.due("how many stand", Check.told("night 2;strip 9 0;strip 9 0;reaper 3 0 1;").best(0, 1), 12);
    }

    private static void oil() {
        MoonReapers x = Check.told("night 3;strip 9 0;reaper 3 0 0;cloud 0;cloud 2;");
        C.due("oil(0)", x.oil(0), 2);
        C.due("his OIL", x.reaper(0, 1), 0);
        C.due("oil(1)", x.oil(1), BAD);
        C.due("oil(-1)", x.oil(-1), BAD);
        x.fill(0, 9);
        C.due("whatever he has", x.oil(0), 2);
        x.grow(0, 10);
        C.due("by none", x.oil(0), NONE);
        MoonReapers two = Check.told("night 1;strip 5 0;reaper 3 0 0;reaper 2 1 0;cloud 0;");
        C.due("all else as it is", two.oil(0), 1);
        two.fill(1, 0);
        C.due("all else as it is", two.oil(0), NONE);
        MoonReapers long9 = Check.told("night 12;strip 9 0;reaper 1 0 0;cloud 0;cloud 1;cloud 2;cloud 3;cloud 4;cloud 5;"
                + "cloud 6;cloud 7;cloud 8;cloud 9;cloud 10;cloud 11;");
        C.due("nine", long9.oil(0), 9);
        C.due("nine", long9.least(0), 9);
        C.due("nine", long9.least(10), 9);
        long9.grow(0, 10);
        C.due("not by nine", long9.oil(0), NONE);
        C.due("not by nine", long9.least(0), NONE);
    }

    private static void least() {
        MoonReapers x = Check.told("night 3;strip 20 0;reaper 4 9 0;reaper 4 9 0;cloud 0;cloud 2;");
        C.due("least(0): 8 by the moon, three more times by lamps", x.least(0), 3);
        C.due("least(10), the first by reapers", x.least(10), 1);
        C.due("least(11)", x.least(11), 2);
        C.due("least(12)", x.least(12), BAD);
        C.due("least(1)", x.least(1), BAD);
        C.due("least(-1)", x.least(-1), BAD);
        C.due("least(9)", x.least(9), BAD);
        C.due("their OIL is as it was", x.count(2), 18);
        x.grow(0, 25);
        C.due("by none", x.least(0), NONE);
        C.due("by none", x.least(11), NONE);
        C.due("BAD comes first", x.least(12), BAD);
        x.grow(0, 8);
        C.due("no oil", x.least(0), 0);
        C.due("no oil", x.least(10), 0);
        MoonReapers all = Check.told("night 12;strip 9 0;strip 9 0;strip 9 0;strip 9 0;reaper 1 0 0;reaper 1 0 1;reaper 1 0 2;reaper 1 0 3;");
        for (int t = 0; t < 12; t++) {
            all.cloud(t, true);
        }
        C.due("nine each", all.least(0), 36);
        for (int r = 0; r < 4; r++) {
            C.due("nine each", all.least(10 + r), 9);
        }
        MoonReapers one = Check.told("night 1;strip 5 0;reaper 4 0 0;reaper 5 0 0;cloud 0;");
        C.due("the second alone does it", one.least(0), 1);
        C.due("the first needs none", one.least(10), 0);
        C.due("the second needs one", one.least(11), 1);
        C.due("nobody, something stands", Check.told("strip 1 0;").least(0), NONE);
        C.due("nobody, nothing stands", Check.told("strip 0 0;").least(0), 0);
    }
}

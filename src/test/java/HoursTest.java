/** Promises 18 to 22: hours that go, and hours that are thought ahead. */
public final class HoursTest {
    private static final Check C = new Check();
    private static final int BAD = MoonReapers.BAD, NONE = MoonReapers.NONE;

    public static void main(String[] args) {
        bounds();
        edges();
        cloudsAndOil();
        nearest();
        thistles();
        nothingLeft();
        ahead();
        done();
        C.finish();
    }

    private static void bounds() {
        MoonReapers x = Check.told("night 3;strip 40 0;reaper 2 0 0;");
        C.due("go(-1)", x.go(-1), BAD);
        C.due("go(13)", x.go(13), BAD);
        C.due("go(4)", x.go(4), MoonReapers.FULL);
        C.due("nothing went", x.rule(1), 0);
        C.due("go(0)", x.go(0), 0);
        C.due("go(2)", x.go(2), 4);
        C.due("go(2) at HOUR 2 of 3", x.go(2), MoonReapers.FULL);
        C.due("YARDS still", x.rule(6), 36);
        C.due("go(1)", x.go(1), 2);
        C.due("go(0) at the end", x.go(0), 0);
        C.due("go(1) at the end", x.go(1), MoonReapers.FULL);
        C.due("HOUR", x.rule(1), 3);
        MoonReapers y = Check.told("night 12;strip 40 0;reaper 2 0 0;");
        C.due("go(12)", y.go(12), 18);
    }

    /** Three cuts, then an hour of whetting. */
    private static void edges() {
        MoonReapers x = Check.told("night 12;strip 40 1;reaper 2 0 0;");
        int[] cut = {2, 2, 2, 0, 2, 2, 2, 0, 2};
        int[] edge = {2, 1, 0, 3, 2, 1, 0, 3, 2};
        for (int k = 0; k < cut.length; k++) {
            C.due("hour " + k, x.go(1), cut[k]);
            C.due("edge behind hour " + k, x.reaper(0, 2), edge[k]);
        }
        C.due("WAGE", x.reaper(0, 4), 14);
        C.due("HARVEST", x.harvest(1), 14);
        MoonReapers y = Check.told("night 3;strip 9 0;reaper 1 0 0;reaper 1 0 0;");
        y.whet(0, 0);
        C.due("one whets, one cuts", y.go(1), 1);
        C.due("THE BRIDE", y.rule(5), 1);
        C.due("EDGE", y.reaper(0, 2), 3);
    }

    private static void cloudsAndOil() {
        MoonReapers x = Check.told("night 6;strip 40 0;reaper 3 1 0;cloud 1;cloud 2;cloud 3;");
        int[] cut = {3, 3, 0, 0, 3, 0};
        int[] oil = {1, 0, 0, 0, 0, 0};
        int[] edge = {2, 1, 1, 1, 0, 3};
        for (int k = 0; k < cut.length; k++) {
            C.due("hour " + k, x.go(1), cut[k]);
            C.due("oil behind hour " + k, x.reaper(0, 1), oil[k]);
            C.due("edge behind hour " + k, x.reaper(0, 2), edge[k]);
        }
        MoonReapers y = Check.told("night 2;strip 40 0;reaper 3 1 0;cloud 0;");
        y.whet(0, 0);
        C.due("he whets under clouds", y.go(1), 0);
        C.due("and burns no oil", y.reaper(0, 1), 1);
        C.due("EDGE", y.reaper(0, 2), 3);
        MoonReapers z = Check.told("night 2;strip 40 0;reaper 3 0 0;cloud 0;");
        z.whet(0, 0);
        z.go(1);
        C.due("he whets without oil too", z.reaper(0, 2), 3);
        MoonReapers w = Check.told("night 2;strip 0 0;strip 9 0;reaper 3 0 0;cloud 0;");
        w.go(1);
        C.due("who waits has gone to where yards stand", w.reaper(0, 3), 1);
    }

    private static void nearest() {
        MoonReapers x = Check.told("night 9;strip 2 0;strip 0 0;strip 0 0;strip 0 0;strip 3 0;reaper 9 0 2;");
        x.go(1);
        C.due("of two the lesser", x.reaper(0, 3), 0);
        x.go(1);
        C.due("then the other", x.reaper(0, 3), 4);
        MoonReapers y = Check.told("night 9;strip 2 0;strip 0 0;strip 0 0;strip 0 0;strip 3 0;reaper 9 0 3;");
        y.go(1);
        C.due("the nearest", y.reaper(0, 3), 4);
        MoonReapers z = Check.told("night 9;strip 2 0;strip 9 0;reaper 2 0 0;reaper 5 0 0;");
        C.due("the second finds the strip cut and goes on", z.go(1), 7);
        C.due("where he is", z.reaper(1, 3), 1);
        C.due("the first stays where he cut last", z.reaper(0, 3), 0);
        MoonReapers far = Check.told("strip 0 0;strip 0 0;strip 0 0;strip 0 0;strip 0 0;strip 0 0;strip 1 3;reaper 1 0 0;");
        C.due("from one end to the other", far.go(1), 1);
        C.due("where he is", far.reaper(0, 3), 6);
        C.due("whose", far.harvest(3), 1);
    }

    private static void thistles() {
        MoonReapers x = Check.told("night 9;strip 40 0;reaper 9 0 0;reaper 4 0 0;reaper 1 0 0;thistle 0;");
        C.due("half, up", x.go(1), 5 + 2 + 1);
        MoonReapers y = Check.told("night 9;strip 3 0;strip 9 0;reaper 9 0 0;thistle 0;");
        C.due("no more than stand", y.go(1), 3);
        C.due("none beside", y.go(1), 9);
    }

    private static void nothingLeft() {
        MoonReapers x = Check.told("night 9;strip 1 0;strip 0 0;reaper 9 5 0;reaper 9 5 1;cloud 0;cloud 1;");
        x.whet(1, 0);
        C.due("go(1)", x.go(1), 1);
        C.due("who finds none does not whet", x.reaper(1, 2), 0);
        C.due("nor goes", x.reaper(1, 3), 1);
        C.due("nor burns", x.reaper(1, 1), 5);
        C.due("go(1)", x.go(1), 0);
        C.due("nor does the first", x.reaper(0, 2), 2);
        C.due("OIL", x.reaper(0, 1), 4);
        C.due("the bride stays", x.rule(5), 0);
    }

    private static void ahead() {
        MoonReapers x = Check.told("night 4;strip 20 0;strip 9 1;reaper 3 2 0;reaper 4 0 1;cloud 1;");
        x.go(1);
        for (int n = 0; n <= 12; n++) {
            MoonReapers y = Check.told("night 4;strip 20 0;strip 9 1;reaper 3 2 0;reaper 4 0 1;cloud 1;");
            y.go(Math.min(4, 1 + n));
            for (int r = 0; r < 2; r++) {
                for (int what = 0; what < 5; what++) {
                    C.due("ahead(" + r + ", " + n + ", " + what + ")", x.ahead(r, n, what), y.reaper(r, what));
                }
                C.due("stands(" + r + ", " + n + ")", x.stands(r, n), y.strip(r, 0));
            }
        }
        C.due("HOUR has not gone", x.rule(1), 1);
        C.due("ahead(2, 0, 0)", x.ahead(2, 0, 0), BAD);
        C.due("ahead(-1, 0, 0)", x.ahead(-1, 0, 0), BAD);
        C.due("ahead(0, 13, 0)", x.ahead(0, 13, 0), BAD);
        C.due("ahead(0, -1, 0)", x.ahead(0, -1, 0), BAD);
        C.due("ahead(0, 0, 5)", x.ahead(0, 0, 5), BAD);
        C.due("ahead(0, 0, -1)", x.ahead(0, 0, -1), BAD);
        C.due("stands(2, 0)", x.stands(2, 0), BAD);
        C.due("stands(-1, 0)", x.stands(-1, 0), BAD);
        C.due("stands(0, 13)", x.stands(0, 13), BAD);
        C.due("stands(0, -1)", x.stands(0, -1), BAD);
    }

    private static void done() {
        MoonReapers x = Check.told("night 5;strip 9 0;strip 3 0;reaper 3 0 0;reaper 2 0 1;");
        C.due("done(0)", x.done(0), 3);
        C.due("done(1)", x.done(1), 0);
        C.due("left()", x.left(), 0);
        x.go(1);
        C.due("done(0) from now on", x.done(0), 2);
        x.go(2);
        C.due("done(0) then", x.done(0), 0);
        x.go(2);
        C.due("done(0) when the night is over", x.done(0), 0);
        C.due("done(2)", x.done(2), BAD);
        C.due("done(-1)", x.done(-1), BAD);
        MoonReapers y = Check.told("night 2;strip 9 0;reaper 3 0 0;");
        C.due("not in the night", y.done(0), NONE);
        C.due("left()", y.left(), 3);
        C.due("done(1)", y.done(1), 0);
        C.due("HOUR", y.rule(1), 0);
        MoonReapers just = Check.told("night 3;strip 9 0;reaper 3 0 0;");
        C.due("in the last hour", just.done(0), 3);
        MoonReapers help = Check.told("night 5;strip 10 0;strip 3 0;reaper 3 0 0;reaper 2 0 1;");
        C.due("the second comes to help", help.done(1), 1);
        C.due("in so many hours", help.done(0), 3);
        MoonReapers nobody = Check.told("night 2;strip 9 0;reaper 3 0 0;cloud 0;cloud 1;");
        C.due("nobody cuts", nobody.done(1), NONE);
        C.due("all is left", nobody.left(), 9);
    }
}

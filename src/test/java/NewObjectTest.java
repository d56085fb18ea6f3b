/** Promise 1, and the answers that an empty night gives. */
public final class NewObjectTest {
    public static void main(String[] args) {
        Check c = new Check();
        MoonReapers x = new MoonReapers();
        c.due("rule(0)", x.rule(0), 8);
        for (int what = 1; what <= 4; what++) {
            c.due("rule(" + what + ")", x.rule(what), 0);
        }
        c.due("rule(5)", x.rule(5), MoonReapers.NONE);
        c.due("rule(6)", x.rule(6), 0);
        for (int o = 0; o < 4; o++) {
            c.due("harvest", x.harvest(o), 0);
        }
        c.due("fault()", x.fault(), 0);
        c.due("torn()", x.torn(), 0);
        c.due("strip(0, 0)", x.strip(0, 0), MoonReapers.BAD);
        c.due("reaper(0, 0)", x.reaper(0, 0), MoonReapers.BAD);
        for (int k = 0; k < 4; k++) {
            c.due("lay(" + k + ", 0, 0)", x.lay(k, 0, 0), -11);
        }
        for (int what = 0; what <= 6; what++) {
            c.due("count(" + what + ")", x.count(what), 0);
        }
        c.due("count(7)", x.count(7), MoonReapers.NONE);
        c.due("back(0)", x.back(0), MoonReapers.STATE);
        c.due("back(1)", x.back(1), MoonReapers.STATE);
        withoutAnybody(c, x);
        c.finish();
    }

    private static void withoutAnybody(Check c, MoonReapers x) {
        c.due("done(0)", x.done(0), 0);
        c.due("done(1)", x.done(1), MoonReapers.NONE);
        c.due("left()", x.left(), 0);
        c.due("begin(0)", x.begin(0), MoonReapers.STATE);
        c.due("begin(10)", x.begin(10), MoonReapers.BAD);
        c.due("best(0, 0)", x.best(0, 0), MoonReapers.BAD);
        c.due("oil(0)", x.oil(0), MoonReapers.BAD);
        c.due("least(0)", x.least(0), 0);
        c.due("least(10)", x.least(10), MoonReapers.BAD);
        c.due("luck(5, 0)", x.luck(5, 0), 1);
        c.due("luck(5, 1)", x.luck(5, 1), 1);
        c.due("hare(0)", x.hare(0), 0);
        c.due("runs()", x.runs(), 0);
        c.due("look(0, 0)", x.look(0, 0), MoonReapers.NONE);
        c.due("look(0, 1)", x.look(0, 1), MoonReapers.NONE);
        c.due("fits(0): one beginning, of nobody", x.fits(0), 1);
        c.due("fits(10)", x.fits(10), MoonReapers.BAD);
        c.due("drift(1, 5, 0)", x.drift(1, 5, 0), 0);
        c.due("drift(1, 5, 1)", x.drift(1, 5, 1), 0);
        c.due("go(8)", x.go(8), 0);
        c.due("rule(1)", x.rule(1), 8);
        c.due("go(1)", x.go(1), MoonReapers.FULL);
    }
}

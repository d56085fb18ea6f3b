/** Boundary cases of promises 6 to 9: what is told of the night, strips, reapers, owners. */
public final class TellBoundsTest {
    private static final int BAD = Bounds.BAD, NONE = Bounds.NONE, MIN = Bounds.MIN, MAX = Bounds.MAX;

    public static void main(String[] args) throws IllegalAccessException {
        Bounds.run(TellBoundsTest.class);
    }

    private static MoonReapers night() {
        return Check.told("strip 3 1;strip 4 2;reaper 5 6 1;");
    }

    // ---- promise 6

    @Says(promise = 6, words = "2 CLOUDS (bits)")
    static void cloudsInNoHourAndInAll(Check c) {
        MoonReapers x = Check.told("night 12;");
        c.due("none", x.rule(2), 0);
        for (int t = 0; t < 12; t++) {
            x.cloud(t, true);
        }
        c.due("all", x.rule(2), 4095);
        x.go(12);
        c.due("hours that went keep theirs", x.rule(2), 4095);
    }

    @Says(promise = 6, words = "5 THE BRIDE (NONE: nobody)")
    static void nobodyIsTheBride(Check c) {
        MoonReapers x = Check.told("night 2;strip 9 0;reaper 1 0 0;cloud 0;");
        c.due("at first", x.rule(5), NONE);
        x.go(1);
        c.due("he waited", x.rule(5), NONE);
        x.whet(0, 0);
        x.go(1);
        c.due("he whetted", x.rule(5), NONE);
        MoonReapers y = Check.told("strip 9 0;reaper 1 0 0;");
        y.go(1);
        c.due("the first reaper is 0, not nobody", y.rule(5), 0);
    }

    @Says(promise = 6, words = "6 YARDS that stand in all")
    static void fromNoYardsToTheMost(Check c) {
        c.due("no strips", new MoonReapers().rule(6), 0);
        c.due("nothing stands", Check.told("strip 0 0;strip 0 0;").rule(6), 0);
        c.due("seven times 40", Check.told("strip 40 0;".repeat(7)).rule(6), 280);
    }

    @Says(promise = 6, words = "BAD")
    static void noSuchRule(Check c) {
        Bounds.each(c, "rule", night()::rule, BAD, -1, 7, MIN, MAX);
        Bounds.each(c, "rule of a new object", new MoonReapers()::rule, BAD, -1, 7);
    }

    // ---- promise 7

    @Says(promise = 7, words = "3 REAPERS who are there (bits)")
    static void nobodyOrAllFourAreThere(Check c) {
        MoonReapers x = Check.told("strip 1 0;strip 1 0;reaper 1 0 1;reaper 1 0 1;reaper 1 0 1;reaper 1 0 1;");
        c.due("nobody", x.strip(0, 3), 0);
        c.due("all", x.strip(1, 3), 15);
        x.send(3, 0);
        c.due("the last one", x.strip(0, 3), 8);
        c.due("the others", x.strip(1, 3), 7);
    }

    @Says(promise = 7, words = "2 THISTLES (1, 0)")
    static void thistlesAreOneOrZero(Check c) {
        MoonReapers x = Check.told("strip 1 0;".repeat(7) + "thistle 6;");
        c.due("there", x.strip(6, 2), 1);
        c.due("not there", x.strip(5, 2), 0);
        c.due("not there", x.strip(0, 2), 0);
    }

    @Says(promise = 7, words = "BAD")
    static void noSuchStrip(Check c) {
        MoonReapers x = night();
        Bounds.each(c, "strip(i, 0)", i -> x.strip(i, 0), BAD, -1, 2, 6, 7, MIN, MAX);
        Bounds.each(c, "strip(0, what)", what -> x.strip(0, what), BAD, -1, 4, MIN, MAX);
        c.due("the last one", x.strip(1, 0), 4);
    }

    // ---- promise 8

    @Says(promise = 8, words = "BAD")
    static void noSuchReaper(Check c) {
        MoonReapers x = night();
        Bounds.each(c, "reaper(r, 0)", r -> x.reaper(r, 0), BAD, -1, 1, 3, 4, MIN, MAX);
        Bounds.each(c, "reaper(0, what)", what -> x.reaper(0, what), BAD, -1, 5, MIN, MAX);
        int[] due = {5, 6, 3, 1, 0};
        for (int what = 0; what <= 4; what++) {
            c.due("reaper(0, " + what + ")", x.reaper(0, what), due[what]);
        }
    }

    // ---- promise 9

    @Says(promise = 9, words = "HARVEST of an OWNER.")
    static void anOwnerWithoutStripsHasNoHarvest(Check c) {
        MoonReapers x = new MoonReapers();
        Bounds.each(c, "harvest", x::harvest, 0, 0, 1, 2, 3);
    }

    @Says(promise = 9, words = "BAD")
    static void noSuchOwner(Check c) {
        Bounds.each(c, "harvest", night()::harvest, BAD, -1, 4, MIN, MAX);
    }
}

/** Boundary cases of the terms: the order of answers, fractions, and the bounds of all that a night has. */
public final class TermsBoundsTest {
    private static final int BAD = Bounds.BAD, STATE = Bounds.STATE, FULL = Bounds.FULL, NONE = Bounds.NONE;

    public static void main(String[] args) throws IllegalAccessException {
        Bounds.run(TermsBoundsTest.class);
    }

    // ---- answers

    @Says(promise = 0, words = "the first that fits")
    static void badComesAheadOfState(Check c) {
        MoonReapers x = Check.told("strip 1 0;strip 1 0;strip 1 0;reaper 1 0 0;reaper 1 0 2;");
        c.due("lend of 10 from afar", x.lend(0, 1, 10), BAD);
        c.due("lend from afar to himself", x.lend(0, 0, 1), BAD);
        c.due("back(2) without images", x.back(2), BAD);
        c.due("begin(1) without strips", new MoonReapers().begin(1), BAD);
        c.due("begin(10) without reapers", Check.told("strip 1 0;").begin(10), BAD);
    }

    @Says(promise = 0, words = "the first that fits")
    static void badComesAheadOfFull(Check c) {
        MoonReapers x = Check.told("night 1;strip 1 0;reaper 1 0 0;reaper 1 9 0;");
        for (int k = 0; k < 160; k++) {
            x.feed(' ');
        }
        for (int k = 0; k < 8; k++) {
            x.see(0, 0, true);
            x.pay(0, 0);
        }
        c.due("feed(128) on a full tape", x.feed(128), BAD);
        c.due("see(7, 0) as the ninth", x.see(7, 0, true), BAD);
        c.due("see(0, 1) as the ninth", x.see(0, 1, true), BAD);
        c.due("pay(2, 0) as the fifth", x.pay(2, 0), BAD);
        c.due("pay(0, 100) as the fifth", x.pay(0, 100), BAD);
        c.due("go(13) in a night of one hour", x.go(13), BAD);
        c.due("lend(1, 1, 1) to one who has 9", x.lend(1, 1, 1), BAD);
    }

    @Says(promise = 0, words = "the first that fits")
    static void badComesAheadOfNone(Check c) {
        MoonReapers x = Check.told("night 1;strip 40 0;reaper 1 0 0;");
        c.due("begin(0), by none", x.begin(0), NONE);
        c.due("begin(11)", x.begin(11), BAD);
        c.due("least(0), by none", x.least(0), NONE);
        c.due("least(11)", x.least(11), BAD);
        c.due("oil(0), by none", x.oil(0), NONE);
        c.due("oil(1)", x.oil(1), BAD);
        c.due("look(0, 0), by none", x.look(0, 0), NONE);
        c.due("look(7, 0)", x.look(7, 0), BAD);
        c.due("look(0, 2)", x.look(0, 2), BAD);
    }

    @Says(promise = 0, words = "the first that fits")
    static void stateComesAheadOfFull(Check c) {
        MoonReapers x = Check.told("strip 1 0;strip 1 0;strip 1 0;reaper 1 9 0;reaper 1 9 2;reaper 1 0 1;");
        c.due("from afar to one who has 9", x.lend(0, 1, 1), STATE);
        c.due("what he has not, to one who has 9", x.lend(2, 1, 1), STATE);
        x.send(0, 1);
        c.due("near, to one who has 9", x.lend(0, 1, 1), FULL);
    }

    @Says(promise = 0, words = "the first that fits")
    static void stateComesAheadOfNone(Check c) {
        c.due("nobody is there, and it is not done by anybody", Check.told("strip 1 0;").begin(0), STATE);
    }

    @Says(promise = 0, words = "Fractions are in lowest terms, the denominator above 0")
    static void fractionsAreInLowestTerms(Check c) {
        MoonReapers x = Check.told("night 1;strip 1 0;reaper 1 0 0;");
        int[] part = {1, 9, 4, 7, 3, 1, 2, 3, 1, 1, 0};
        int[] whole = {1, 10, 5, 10, 5, 2, 5, 10, 5, 10, 1};
        for (int v = 0; v <= 10; v++) {
            c.due("part by " + v, x.luck(v, 0), part[v]);
            c.due("whole by " + v, x.luck(v, 1), whole[v]);
        }
    }

    @Says(promise = 0, words = "0 is 0 by 1")
    static void nothingIsZeroByOne(Check c) {
        MoonReapers x = Check.told("night 12;strip 1 0;");
        for (int v = 0; v <= 10; v++) {
            c.due("part by " + v, x.luck(v, 0), 0);
            c.due("whole by " + v, x.luck(v, 1), 1);
        }
    }

    // ---- strips, reapers, the night

    @Says(promise = 0, words = "1 STRIPS (7 at most, by order, one next to another)")
    static void sevenStripsAndNoEighth(Check c) {
        MoonReapers x = Bounds.told(c, "strip 1 0;strip 2 0;strip 3 0;strip 4 0;strip 5 0;strip 6 0;strip 7 0;", 7, 0);
        c.due("STRIPS", x.rule(3), 7);
        for (int i = 0; i < 7; i++) {
            c.due("by order, strip " + i, x.strip(i, 0), i + 1);
        }
        Bounds.told(c, "strip 1 0;strip 2 0;strip 3 0;strip 4 0;strip 5 0;strip 6 0;strip 7 0;strip 8 0;", -80, 5);
    }

    @Says(promise = 0, words = "each has YARDS that stand (0 to 40)")
    static void yards(Check c) {
        c.due("the fewest", Bounds.told(c, "strip 0 0;", 1, 0).strip(0, 0), 0);
        c.due("the most", Bounds.told(c, "strip 40 0;", 1, 0).strip(0, 0), 40);
        Bounds.told(c, "strip 41 0;", -16, 3);
        Bounds.told(c, "strip 99 0;", -16, 3);
    }

    @Says(promise = 0, words = "an OWNER (0 to 3)")
    static void owners(Check c) {
        for (int o = 0; o <= 3; o++) {
            c.due("owner " + o, Bounds.told(c, "strip 1 " + o + ";", 1, 0).strip(0, 1), o);
        }
        Bounds.told(c, "strip 1 4;", -18, 3);
    }

    @Says(promise = 0, words = "REAPERS (4 at most, by order)")
    static void fourReapersAndNoFifth(Check c) {
        String four = "strip 1 0;reaper 1 0 0;reaper 2 0 0;reaper 3 0 0;reaper 4 0 0;";
        MoonReapers x = Bounds.told(c, four, 5, 0);
        c.due("REAPERS", x.rule(4), 4);
        for (int r = 0; r < 4; r++) {
            c.due("by order, reaper " + r, x.reaper(r, 0), r + 1);
        }
        Bounds.told(c, four + "reaper 5 0 0;", -72, 5);
    }

    @Says(promise = 0, words = "each has a PACE (1 to 9)")
    static void paces(Check c) {
        Bounds.told(c, "strip 1 0;reaper 0 0 0;", -27, 3);
        c.due("the least", Bounds.told(c, "strip 1 0;reaper 1 0 0;", 2, 0).reaper(0, 0), 1);
        c.due("the most", Bounds.told(c, "strip 1 0;reaper 9 0 0;", 2, 0).reaper(0, 0), 9);
        Bounds.told(c, "strip 1 0;reaper 10 0 0;", -27, 3);
    }

    @Says(promise = 0, words = "OIL (0 to 9)")
    static void oil(Check c) {
        c.due("the least", Bounds.told(c, "strip 1 0;reaper 1 0 0;", 2, 0).reaper(0, 1), 0);
        c.due("the most", Bounds.told(c, "strip 1 0;reaper 1 9 0;", 2, 0).reaper(0, 1), 9);
        Bounds.told(c, "strip 1 0;reaper 1 10 0;", -29, 3);
    }

    @Says(promise = 0, words = "an EDGE (0 to 3; 3 at first)")
    static void edges(Check c) {
        MoonReapers x = Check.told("night 12;strip 40 0;reaper 1 0 0;");
        c.due("at first", x.reaper(0, 2), 3);
        for (int n = 0; n <= 12; n++) {
            int edge = x.ahead(0, n, 2);
            c.holds("within its bounds behind " + n + " hours: " + edge, edge >= 0 && edge <= 3);
        }
    }

    @Says(promise = 0, words = "a WAGE (YARDS that he cut; 0 at first)")
    static void wages(Check c) {
        MoonReapers x = Check.told("strip 2 0;reaper 9 0 0;reaper 9 0 0;");
        c.due("at first", x.reaper(0, 4), 0);
        x.go(1);
        c.due("what he cut, not his pace", x.reaper(0, 4), 2);
        c.due("nothing was left for him", x.reaper(1, 4), 0);
        Check.read(x, "strip 2 0;reaper 9 0 0;");
        c.due("at first again", x.reaper(0, 4), 0);
    }

    @Says(promise = 0, words = "THE NIGHT has HOURS (1 to 12; 8 at first)")
    static void hours(Check c) {
        c.due("at first", new MoonReapers().rule(0), 8);
        Bounds.told(c, "night 0;", -16, 3);
        c.due("the fewest", Bounds.told(c, "night 1;", 1, 0).rule(0), 1);
        c.due("the most", Bounds.told(c, "night 12;", 1, 0).rule(0), 12);
        Bounds.told(c, "night 13;", -16, 3);
        c.due("a text that does not tell", Bounds.told(c, "strip 1 0;", 1, 0).rule(0), 8);
    }

    @Says(promise = 0, words = "CLOUDS in some of them (bits; none)")
    static void clouds(Check c) {
        c.due("none", new MoonReapers().rule(2), 0);
        c.due("in the first", Bounds.told(c, "cloud 0;", 1, 0).rule(2), 1);
        c.due("in the last of twelve", Bounds.told(c, "night 12;cloud 11;", 2, 0).rule(2), 2048);
    }

    @Says(promise = 0, words = "HOUR: how many went (0 at first)")
    static void hour(Check c) {
        MoonReapers x = Check.told("night 12;");
        c.due("at first", x.rule(1), 0);
        for (int k = 1; k <= 12; k++) {
            x.go(1);
            c.due("how many went", x.rule(1), k);
        }
    }

    @Says(promise = 0, words = "HARVEST of an OWNER: YARDS of his that were cut (0 at first)")
    static void harvests(Check c) {
        MoonReapers x = Check.told("strip 3 0;strip 2 3;reaper 9 0 0;reaper 9 0 1;");
        for (int o = 0; o <= 3; o++) {
            c.due("at first", x.harvest(o), 0);
        }
        x.go(8);
        c.due("of the first owner", x.harvest(0), 3);
        c.due("of one without strips", x.harvest(1), 0);
        c.due("of the last owner", x.harvest(3), 2);
    }

    @Says(promise = 0, words = "THE BRIDE: who cut last (nobody at first)")
    static void bride(Check c) {
        MoonReapers x = Check.told("strip 4 0;reaper 1 0 0;reaper 1 0 0;reaper 1 0 0;");
        c.due("nobody", x.rule(5), NONE);
        x.go(1);
        c.due("the last by order", x.rule(5), 2);
        x.go(1);
        c.due("he who found the last yard", x.rule(5), 0);
        x.go(1);
        c.due("nobody cuts, so it stays his", x.rule(5), 0);
    }
}

/** Boundary cases of promises 10 to 17: what is changed. */
public final class ChangeBoundsTest {
    private static final int BAD = Bounds.BAD, STATE = Bounds.STATE, FULL = Bounds.FULL, MIN = Bounds.MIN, MAX = Bounds.MAX;

    public static void main(String[] args) throws IllegalAccessException {
        Bounds.run(ChangeBoundsTest.class);
    }

    /** Three strips; the reapers are on strips 0, 1 and 2 and have 2, 7 and 9 oil. */
    private static MoonReapers night() {
        return Check.told("night 5;strip 10 2;strip 4 0;strip 7 3;reaper 3 2 0;reaper 9 7 1;reaper 5 9 2;");
    }

    // ---- promise 10

    @Says(promise = 10, words = "A REAPER is at a STRIP: where he was.")
    static void fromTheFirstStripToTheLast(Check c) {
        MoonReapers x = night();
        c.due("to where he is", x.send(0, 0), 0);
        c.due("to the last", x.send(0, 2), 0);
        c.due("to the first", x.send(0, 0), 2);
        c.due("the last one", x.send(2, 0), 2);
        c.due("all but one are there", x.strip(0, 3), 5);
    }

    @Says(promise = 10, words = "BAD")
    static void nobodyIsSentNowhere(Check c) {
        MoonReapers x = night();
        Bounds.each(c, "send(r, 1)", r -> x.send(r, 1), BAD, -1, 3, 4, MIN, MAX);
        Bounds.each(c, "send(0, i)", i -> x.send(0, i), BAD, -1, 3, 7, MIN, MAX);
        c.due("he stays", x.reaper(0, 3), 0);
    }

    // ---- promise 11

    @Says(promise = 11, words = "to another one who is at his STRIP or at one next to it")
    static void nearAndFar(Check c) {
        MoonReapers x = night();
        x.fill(0, 4);
        c.due("to one next to him, above", x.lend(0, 1, 1), 8);
        c.due("to one next to him, below", x.lend(1, 0, 1), 4);
        c.due("two apart, above", x.lend(0, 2, 0), STATE);
        c.due("two apart, below", x.lend(2, 0, 0), STATE);
        x.send(2, 0);
        c.due("at his strip", x.lend(2, 0, 1), 5);
    }

    @Says(promise = 11, words = "BAD (also alike, 0 to 9)")
    static void noSuchLending(Check c) {
        MoonReapers x = night();
        Bounds.each(c, "lend(r, r, 0)", r -> x.lend(r, r, 0), BAD, 0, 1, 2);
        Bounds.each(c, "lend(a, 1, 0)", a -> x.lend(a, 1, 0), BAD, -1, 3, 4, MIN, MAX);
        Bounds.each(c, "lend(1, b, 0)", b -> x.lend(1, b, 0), BAD, -1, 3, 4, MIN, MAX);
        Bounds.each(c, "lend(2, 1, oil)", oil -> x.lend(2, 1, oil), BAD, -1, 10, MIN, MAX);
        c.due("0 is lent", x.lend(2, 1, 0), 7);
        x.fill(1, 0);
        c.due("9 are lent", x.lend(2, 1, 9), 9);
        c.due("all oil", x.count(2), 11);
    }

    @Says(promise = 11, words = "STATE: they are further apart, the first one has not so much")
    static void heHasNotSoMuch(Check c) {
        MoonReapers x = night();
        c.due("one more than he has", x.lend(0, 1, 3), STATE);
        c.due("all that he has", x.lend(0, 1, 2), 9);
        c.due("one more than none", x.lend(0, 1, 1), STATE);
        c.due("none of none", x.lend(0, 1, 0), 9);
        c.due("further apart", x.lend(0, 2, 0), STATE);
        c.due("all oil", x.count(2), 18);
    }

    @Says(promise = 11, words = "FULL: the second one would have more than 9")
    static void moreThanNine(Check c) {
        MoonReapers x = night();
        c.due("ten", x.lend(2, 1, 3), FULL);
        c.due("the first one has what he had", x.reaper(2, 1), 9);
        c.due("the second one has what he had", x.reaper(1, 1), 7);
        c.due("nine", x.lend(2, 1, 2), 9);
        c.due("none to one who has nine", x.lend(2, 1, 0), 9);
        c.due("ten again", x.lend(2, 1, 1), FULL);
    }

    // ---- promise 12

    @Says(promise = 12, words = "EDGE of a REAPER becomes e: what it was.")
    static void fromDullToSharp(Check c) {
        MoonReapers x = night();
        c.due("as it is", x.whet(2, 3), 3);
        c.due("dull", x.whet(2, 0), 3);
        c.due("sharp", x.whet(2, 3), 0);
        c.due("EDGE", x.reaper(2, 2), 3);
    }

    @Says(promise = 12, words = "BAD")
    static void noSuchEdge(Check c) {
        MoonReapers x = night();
        Bounds.each(c, "whet(0, e)", e -> x.whet(0, e), BAD, -1, 4, MIN, MAX);
        Bounds.each(c, "whet(r, 0)", r -> x.whet(r, 0), BAD, -1, 3, 4, MIN, MAX);
        c.due("EDGE", x.reaper(0, 2), 3);
    }

    // ---- promise 13

    @Says(promise = 13, words = "OIL of a REAPER becomes v: what it was.")
    static void fromEmptyToFull(Check c) {
        MoonReapers x = night();
        c.due("full", x.fill(0, 9), 2);
        c.due("empty", x.fill(0, 0), 9);
        c.due("as it is", x.fill(0, 0), 0);
        c.due("OIL", x.reaper(0, 1), 0);
    }

    @Says(promise = 13, words = "BAD")
    static void noSuchOil(Check c) {
        MoonReapers x = night();
        Bounds.each(c, "fill(0, v)", v -> x.fill(0, v), BAD, -1, 10, MIN, MAX);
        Bounds.each(c, "fill(r, 0)", r -> x.fill(r, 0), BAD, -1, 3, 4, MIN, MAX);
        c.due("OIL", x.reaper(0, 1), 2);
    }

    // ---- promise 14

    @Says(promise = 14, words = "CLOUDS in an HOUR (0 to HOURS less 1), or none: whether there were.")
    static void theFirstHourAndTheLast(Check c) {
        for (int hours = 1; hours <= 12; hours++) {
            MoonReapers x = Check.told("night " + hours + ";");
            c.due("the first", x.cloud(0, true), 0);
            c.due("the first again", x.cloud(0, true), 1);
            c.due("the first, none", x.cloud(0, false), 1);
            c.due("the last", x.cloud(hours - 1, true), 0);
            c.due("bits", x.rule(2), 1 << hours - 1);
            c.due("behind the last", x.cloud(hours, true), BAD);
        }
    }

    @Says(promise = 14, words = "CLOUDS in an HOUR (0 to HOURS less 1), or none: whether there were.")
    static void anHourThatWent(Check c) {
        MoonReapers x = night();
        x.go(5);
        c.due("the first, when the night is over", x.cloud(0, true), 0);
        c.due("the last, when the night is over", x.cloud(4, true), 0);
        c.due("bits", x.rule(2), 17);
    }

    @Says(promise = 14, words = "BAD")
    static void noSuchHour(Check c) {
        MoonReapers x = night();
        x.cloud(0, true);
        Bounds.each(c, "cloud(t, true)", t -> x.cloud(t, true), BAD, -1, 5, 11, 12, 32, 33, MIN, MAX);
        Bounds.each(c, "cloud(t, false)", t -> x.cloud(t, false), BAD, -1, 5, 11, 12, 32, 33, MIN, MAX);
        c.due("bits", x.rule(2), 1);
    }

    // ---- promise 15

    @Says(promise = 15, words = "THISTLES on a STRIP, or none: whether there were.")
    static void theFirstStripAndTheLast(Check c) {
        MoonReapers x = night();
        Bounds.each(c, "thistle(i, false), none yet", i -> x.thistle(i, false), 0, 0, 2);
        Bounds.each(c, "thistle(i, true)", i -> x.thistle(i, true), 0, 0, 2);
        Bounds.each(c, "thistle(i, true) again", i -> x.thistle(i, true), 1, 0, 2);
        c.due("not between them", x.strip(1, 2), 0);
        Bounds.each(c, "thistle(i, false)", i -> x.thistle(i, false), 1, 0, 2);
        Bounds.each(c, "strip(i, 2)", i -> x.strip(i, 2), 0, 0, 1, 2);
    }

    @Says(promise = 15, words = "BAD")
    static void noThistlesNowhere(Check c) {
        MoonReapers x = night();
        Bounds.each(c, "thistle(i, true)", i -> x.thistle(i, true), BAD, -1, 3, 7, 32, MIN, MAX);
        Bounds.each(c, "strip(i, 2)", i -> x.strip(i, 2), 0, 0, 1, 2);
        x.thistle(0, true);
        Bounds.each(c, "thistle(i, false)", i -> x.thistle(i, false), BAD, -1, 3, 7, 32, MIN, MAX);
        c.due("they are there still", x.strip(0, 2), 1);
    }

    // ---- promise 16

    @Says(promise = 16, words = "A STRIP becomes an OWNER's: whose it was.")
    static void theFirstOwnerAndTheLast(Check c) {
        MoonReapers x = night();
        c.due("the last", x.own(2, 3), 3);
        c.due("the first", x.own(2, 0), 3);
        c.due("the last again", x.own(2, 3), 0);
        c.due("OWNER", x.strip(2, 1), 3);
    }

    @Says(promise = 16, words = "BAD")
    static void nobodysStrip(Check c) {
        MoonReapers x = night();
        Bounds.each(c, "own(0, o)", o -> x.own(0, o), BAD, -1, 4, MIN, MAX);
        Bounds.each(c, "own(i, 0)", i -> x.own(i, 0), BAD, -1, 3, 7, MIN, MAX);
        c.due("OWNER", x.strip(0, 1), 2);
    }

    // ---- promise 17

    @Says(promise = 17, words = "YARDS of a STRIP become y (0 to 40): how many stood.")
    static void fromNoYardsToForty(Check c) {
        MoonReapers x = night();
        c.due("none", x.grow(2, 0), 7);
        c.due("forty", x.grow(2, 40), 0);
        c.due("as many", x.grow(2, 40), 40);
        c.due("YARDS", x.strip(2, 0), 40);
        c.due("in all", x.rule(6), 54);
    }

    @Says(promise = 17, words = "BAD")
    static void noSuchYards(Check c) {
        MoonReapers x = night();
        Bounds.each(c, "grow(0, y)", y -> x.grow(0, y), BAD, -1, 41, MIN, MAX);
        Bounds.each(c, "grow(i, 0)", i -> x.grow(i, 0), BAD, -1, 3, 7, MIN, MAX);
        c.due("YARDS", x.rule(6), 21);
    }
}

/** Boundary cases of promises 1 to 5: a new object, the tape, its text. */
public final class TextBoundsTest {
    private static final int BAD = Bounds.BAD, FULL = Bounds.FULL, NONE = Bounds.NONE;
    private static final int MIN = Bounds.MIN, MAX = Bounds.MAX;

    public static void main(String[] args) throws IllegalAccessException {
        Bounds.run(TextBoundsTest.class);
    }

    // ---- promise 1

    @Says(promise = 1, words = "Eight HOURS")
    static void aNewNightHasEightHours(Check c) {
        MoonReapers x = new MoonReapers();
        c.due("HOURS", x.rule(0), 8);
        c.due("the last hour", x.cloud(7, false), 0);
        c.due("none behind it", x.cloud(8, false), BAD);
        c.due("nine do not go", x.go(9), FULL);
        c.due("eight go", x.go(8), 0);
    }

    @Says(promise = 1, words = "no STRIPS")
    static void aNewNightHasNoStrips(Check c) {
        MoonReapers x = new MoonReapers();
        c.due("STRIPS", x.rule(3), 0);
        c.due("YARDS in all", x.rule(6), 0);
        c.due("with YARDS", x.count(0), 0);
        c.due("strip(0, 0)", x.strip(0, 0), BAD);
        c.due("thistle(0, true)", x.thistle(0, true), BAD);
        c.due("own(0, 0)", x.own(0, 0), BAD);
        c.due("grow(0, 0)", x.grow(0, 0), BAD);
        c.due("stands(0, 0)", x.stands(0, 0), BAD);
        c.due("see(0, 0, false)", x.see(0, 0, false), BAD);
        c.due("nowhere to run", x.runs(), 0);
        c.due("nowhere to be", x.hare(0), 0);
        c.due("done already", x.done(0), 0);
    }

    @Says(promise = 1, words = "nobody")
    static void aNewNightHasNobody(Check c) {
        MoonReapers x = new MoonReapers();
        c.due("REAPERS", x.rule(4), 0);
        c.due("THE BRIDE", x.rule(5), NONE);
        c.due("reaper(0, 0)", x.reaper(0, 0), BAD);
        c.due("send(0, 0)", x.send(0, 0), BAD);
        c.due("lend(0, 1, 0)", x.lend(0, 1, 0), BAD);
        c.due("whet(0, 3)", x.whet(0, 3), BAD);
        c.due("fill(0, 0)", x.fill(0, 0), BAD);
        c.due("ahead(0, 0, 0)", x.ahead(0, 0, 0), BAD);
        c.due("best(0, 0)", x.best(0, 0), BAD);
        c.due("oil(0)", x.oil(0), BAD);
        c.due("pay(0, 0)", x.pay(0, 0), BAD);
    }

    @Says(promise = 1, words = "SHEETS of nothing")
    static void aNewObjectHasNoSheets(Check c) {
        MoonReapers x = new MoonReapers();
        c.due("CELLS of SHEET 0", x.count(7), NONE);
        for (int k = 0; k <= 3; k++) {
            c.due("lay(" + k + ", 0, 0)", x.lay(k, 0, 0), -11);
            c.due("read(" + k + ", 0, 0, 1)", x.read(k, 0, 0, 1), 0);
            c.due("torn()", x.torn(), 1);
        }
    }

    // ---- promise 2

    @Says(promise = 2, words = "A byte (0 to 127) comes behind THE TAPE: how many it has.")
    static void theLeastAndTheGreatestByte(Check c) {
        MoonReapers x = new MoonReapers();
        c.due("feed(0)", x.feed(0), 1);
        c.due("feed(127)", x.feed(127), 2);
        c.due("feed(0) again", x.feed(0), 3);
    }

    @Says(promise = 2, words = "BAD")
    static void noByte(Check c) {
        MoonReapers x = new MoonReapers();
        Bounds.each(c, "feed", x::feed, BAD, -1, 128, 255, 256 + 'a', -128, MIN, MAX);
        c.due("THE TAPE is empty", x.count(6), 0);
    }

    @Says(promise = 2, words = "FULL: more than 160")
    static void aFullTape(Check c) {
        MoonReapers x = new MoonReapers();
        for (int k = 1; k <= 160; k++) {
            c.due("byte " + k, x.feed(' '), k);
        }
        c.due("byte 161", x.feed(' '), FULL);
        c.due("byte 161 again", x.feed('x'), FULL);
        c.due("bytes", x.count(6), 160);
        c.due("no byte of what was refused is there", x.text(), 0);
        c.due("room again", x.feed(' '), 1);
    }

    @Says(promise = 2, words = "FULL: more than 160")
    static void roomAgainBehindAFullTape(Check c) {
        MoonReapers x = new MoonReapers();
        Check.feed(x, " ".repeat(160));
        c.due("one byte is taken off", x.end(159), 160);
        c.due("one comes", x.feed('x'), 160);
        c.due("no more", x.feed('x'), FULL);
        c.due("it is the last one", x.text(), -169);
    }

    // ---- promise 3

    @Says(promise = 3, words = "THE TAPE keeps its first n bytes: how many it had.")
    static void allSomeOrNoneOfTheBytes(Check c) {
        MoonReapers x = new MoonReapers();
        c.due("none of none", x.end(0), 0);
        Check.feed(x, "night 5;night 6;");
        c.due("all", x.end(16), 16);
        c.due("all still", x.count(6), 16);
        c.due("some", x.end(8), 16);
        c.due("the first ones", x.text(), 1);
        c.due("HOURS", x.rule(0), 5);
        Check.feed(x, "night 6;");
        c.due("none", x.end(0), 8);
        c.due("nothing is left to be told", x.text(), 0);
        c.due("HOURS", x.rule(0), 8);
    }

    @Says(promise = 3, words = "BAD")
    static void moreBytesThanThereAre(Check c) {
        MoonReapers x = new MoonReapers();
        Bounds.each(c, "end of an empty tape", x::end, BAD, -1, 1, 160, MIN, MAX);
        Check.feed(x, "abc");
        Bounds.each(c, "end", x::end, BAD, -1, 4, 160, 161, MIN, MAX);
        c.due("bytes", x.count(6), 3);
        Check.feed(x, " ".repeat(157));
        c.due("more than may be", x.end(161), BAD);
        c.due("all that may be", x.end(160), 160);
    }

    // ---- promise 4

    @Says(promise = 4, words = "THE TAPE (empty then)")
    static void theTapeIsEmptyThen(Check c) {
        MoonReapers x = new MoonReapers();
        Check.feed(x, "night 5;");
        x.text();
        c.due("behind a text that was taken", x.count(6), 0);
        Check.feed(x, "night 5;#");
        x.text();
        c.due("behind a fault", x.count(6), 0);
        c.due("the next byte is the first", x.feed('n'), 1);
    }

    @Says(promise = 4, words = "tells all: how many lines")
    static void fromNoLineToTheMostThatAFullTapeHolds(Check c) {
        MoonReapers x = new MoonReapers();
        c.due("no line", x.text(), 0);
        c.due("no line again", x.text(), 0);
        StringBuilder most = new StringBuilder("night12;");
        for (int t = 0; t < 12; t++) {
            most.append("cloud").append(t).append(';');
        }
        most.append("strip0 0;".repeat(7)).append("   ");
        c.due("bytes", most.length(), 160);
        c.due("twenty lines", Check.read(x, most.toString()), 20);
        c.due("CLOUDS", x.rule(2), 4095);
        c.due("STRIPS", x.rule(3), 7);
    }

    @Says(promise = 4, words = "-10 less the place of its FAULT")
    static void faultsAtTheFirstAndTheLastPlace(Check c) {
        MoonReapers x = new MoonReapers();
        c.due("the first place", Check.read(x, "#"), -10);
        c.due("the last place", Check.read(x, " ".repeat(159) + "#"), -169);
        c.due("behind a full tape", Check.read(x, " ".repeat(155) + "night"), -170);
        c.due("FAULT", x.fault(), 2);
    }

    @Says(promise = 4, words = "that which was told stays")
    static void whatWasToldStays(Check c) {
        MoonReapers x = Check.told("night 5;strip 9 1;strip 4 3;reaper 3 2 1;cloud 1;thistle 0;");
        x.go(1);
        x.see(0, 1, true);
        x.pay(0, 7);
        x.keep(0);
        String before = Portrait.of(x);
        String[] texts = {"night 12;strip 1 1;#", "night 12;strip 1", "night 12;strip 41", "night 12;night",
            "strip 0 0;".repeat(8), "night 12;thistle 0;"};
        for (int fault = 1; fault <= 6; fault++) {
            c.holds("a fault", Check.read(x, texts[fault - 1]) <= -10);
            c.due("FAULT", x.fault(), fault);
            c.holds("all else is as it was", Portrait.of(x).equals(before.replace("fault 0", "fault " + fault)));
        }
    }

    // ---- promise 5

    @Says(promise = 5, words = "The FAULT of the latest text(); 0.")
    static void theLatestFaultOrNone(Check c) {
        MoonReapers x = new MoonReapers();
        c.due("no text yet", x.fault(), 0);
        Check.read(x, "night 13;");
        c.due("out of bounds", x.fault(), 3);
        c.due("asked again", x.fault(), 3);
        Check.feed(x, "night 1");
        x.end(0);
        x.feed(128);
        c.due("the tape alone changes nothing of it", x.fault(), 3);
        Check.read(x, "night");
        c.due("the latest", x.fault(), 2);
        x.text();
        c.due("none", x.fault(), 0);
    }
}

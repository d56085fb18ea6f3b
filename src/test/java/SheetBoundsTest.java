/** Boundary cases of sheets: promises 39 to 42. */
public final class SheetBoundsTest {
    private static final int BAD = Bounds.BAD, NONE = Bounds.NONE, MIN = Bounds.MIN, MAX = Bounds.MAX;
    private static final int NULL = 1, INDEX = 2, CAST = 3;

    public static void main(String[] args) throws IllegalAccessException {
        Bounds.run(SheetBoundsTest.class);
    }

    /** Three strips and three reapers, who are all on strip 0. */
    private static MoonReapers night() {
        return Check.told("strip 1 0;strip 1 0;strip 1 0;reaper 1 0 0;reaper 1 0 0;reaper 1 0 0;");
    }

    /** Sheet 0 of a lane holds the cells. */
    private static MoonReapers night(int lane, int... cells) {
        MoonReapers x = night();
        x.sheet(0, lane, cells.length);
        for (int i = 0; i < cells.length; i++) {
            x.lay(0, i, cells[i]);
        }
        return x;
    }

    private static void reads(Check c, String call, long got, long due, MoonReapers x, int torn) {
        c.due(call, got, due);
        c.due("torn() behind " + call, x.torn(), torn);
    }

    private static void where(Check c, MoonReapers x, int first, int second, int third) {
        c.due("where the first one is", x.reaper(0, 3), first);
        c.due("where the second one is", x.reaper(1, 3), second);
        c.due("where the third one is", x.reaper(2, 3), third);
    }

    // ---- the terms

    @Says(promise = 0, words = "SHEETS 0 to 3 are rows of BYTES (lane 0), SHORTS (1), INTS (2) with 0 to 40 CELLS, or"
            + " nothing (at first).")
    static void everySheetOfEveryLane(Check c) {
        MoonReapers x = night();
        for (int k = 0; k <= 3; k++) {
            c.due("nothing at first", x.lay(k, 0, 1), -11);
            for (int lane = 0; lane <= 2; lane++) {
                c.due("no cells", x.sheet(k, lane, 0), 1);
                c.due("no cell 0", x.lay(k, 0, 1), -12);
                c.due("40 cells", x.sheet(k, lane, 40), 1);
                c.due("cell 39", x.lay(k, 39, 1), 1);
                c.due("no cell 40", x.lay(k, 40, 1), -12);
                c.due("of its lane", x.read(k, lane, 38, 1), 1);
                c.due("he went", x.reaper(0, 3), 1);
            }
        }
    }

    // ---- promise 39

    @Says(promise = 39, words = "A SHEET is a new row of CELLS 0: 1.")
    static void aNewRowIsAllZero(Check c) {
        MoonReapers x = night(0, 1, 1, 1, 1);
        c.due("as long, of the same lane", x.sheet(0, 0, 4), 1);
        x.send(0, 2);
        reads(c, "all cells are 0", x.read(0, 0, 0, 2), 2, x, 0);
        where(c, x, 0, 0, 0);
        c.due("of another lane", x.sheet(0, 1, 2), 1);
        reads(c, "not of the lane any more", x.read(0, 0, 0, 1), 0, x, CAST);
        c.due("no cells", x.sheet(0, 2, 0), 1);
        c.due("CELLS", x.count(7), 0);
    }

    @Says(promise = 39, words = "BAD: also n above 40")
    static void noSuchSheet(Check c) {
        MoonReapers x = night(0, 1, 1);
        Bounds.each(c, "sheet(k, 0, 1)", k -> x.sheet(k, 0, 1), BAD, -1, 4, MIN, MAX);
        Bounds.each(c, "sheet(0, lane, 1)", lane -> x.sheet(0, lane, 1), BAD, -1, 3, MIN, MAX);
        Bounds.each(c, "sheet(0, 0, n)", n -> x.sheet(0, 0, n), BAD, 41, MAX);
        Bounds.each(c, "sheet(k, 0, -1)", k -> x.sheet(k, 0, -1), BAD, -1, 4);
        Bounds.each(c, "sheet(0, lane, -1)", lane -> x.sheet(0, lane, -1), BAD, -1, 3);
        c.due("CELLS as before", x.count(7), 2);
        c.due("its cells as before", x.read(0, 0, 0, 1), 1);
        where(c, x, 0, 1, 0);
    }

    @Says(promise = 39, words = "-10 - 4")
    static void aSizeBelowZero(Check c) {
        MoonReapers x = night(0, 1, 1);
        Bounds.each(c, "sheet(0, 1, n)", n -> x.sheet(0, 1, n), -14, -1, -40, MIN);
        c.due("CELLS as before", x.count(7), 2);
        reads(c, "its cells as before", x.read(0, 0, 0, 1), 1, x, 0);
        where(c, x, 0, 1, 0);
        c.due("nothing stays nothing", x.sheet(1, 0, -1), -14);
        c.due("nothing", x.lay(1, 0, 0), -11);
    }

    // ---- promise 40

    @Says(promise = 40, words = "CELL i of a SHEET becomes v (its lowest bits): 1.")
    static void theLowestBitsOfBytes(Check c) {
        int[] one = {1, 257, -255, 65537, MIN + 1, 0x7fffff01};
        int[] below = {-1, 255, 128, -128, 0x1ff, MAX};
        lowestBits(c, 0, one, below);
    }

    @Says(promise = 40, words = "CELL i of a SHEET becomes v (its lowest bits): 1.")
    static void theLowestBitsOfShorts(Check c) {
        int[] one = {1, 65537, -65535, MIN + 1, 0x7fff0001};
        int[] not = {-1, 257, 256, 32768, 65535, MAX};
        lowestBits(c, 1, one, not);
    }

    @Says(promise = 40, words = "CELL i of a SHEET becomes v (its lowest bits): 1.")
    static void theLowestBitsOfInts(Check c) {
        int[] not = {-1, 257, 65537, MIN + 1, MAX, MIN};
        lowestBits(c, 2, new int[] {1}, not);
    }

    /** Laid as the reaper: 1 in its lane, or no reaper's number. */
    private static void lowestBits(Check c, int lane, int[] one, int[] not) {
        MoonReapers x = night(lane, 0, 2);
        for (int v : one) {
            x.send(1, 0);
            c.due("lay " + v, x.lay(0, 0, v), 1);
            c.due(v + " is 1", x.read(0, lane, 0, 1), 1);
            where(c, x, 0, 2, 0);
        }
        for (int v : not) {
            c.due("lay " + v, x.lay(0, 0, v), 1);
            c.due(v + " is nobody", x.read(0, lane, 0, 1), -20);
        }
    }

    @Says(promise = 40, words = "BAD: k")
    static void layOnNoSuchSheet(Check c) {
        Bounds.each(c, "lay(k, 0, 0)", k -> night(0, 0).lay(k, 0, 0), BAD, -1, 4, MIN, MAX);
        Bounds.each(c, "lay(k, -1, 0)", k -> night(0, 0).lay(k, -1, 0), BAD, -1, 4);
    }

    @Says(promise = 40, words = "-10 less the FAULT: NULL, INDEX")
    static void layOnNothingOrNowhere(Check c) {
        MoonReapers x = night(2, 0, 0);
        Bounds.each(c, "on nothing", i -> x.lay(1, i, 0), -11, -1, 0, 40, MIN, MAX);
        Bounds.each(c, "nowhere", i -> x.lay(0, i, 1), -12, -1, 2, 39, 40, MIN, MAX);
        Bounds.each(c, "the first and the last", i -> x.lay(0, i, 1), 1, 0, 1);
        c.due("torn() is not of lay()", x.torn(), 0);
    }

    // ---- promise 41

    @Says(promise = 41, words = "n (0 to 20) REAPERS (REAPER, STRIP) are sent by a SHEET taken as of a lane, two"
            + " CELLS each from CELL f on, as by send(): how many were.")
    static void fromNobodyToTwenty(Check c) {
        MoonReapers x = night();
        x.sheet(0, 1, 40);
        reads(c, "nobody", x.read(0, 1, 0, 0), 0, x, 0);
        for (int j = 0; j < 20; j++) {
            x.lay(0, 2 * j, j % 3);
            x.lay(0, 2 * j + 1, j < 17 ? 1 : 2);
        }
        reads(c, "seventeen", x.read(0, 1, 0, 17), 17, x, 0);
        where(c, x, 1, 1, 1);
        reads(c, "twenty", x.read(0, 1, 0, 20), 20, x, 0);
        where(c, x, 2, 2, 2);
    }

    @Says(promise = 41, words = "two CELLS each from CELL f on")
    static void theFirstAndTheLastPair(Check c) {
        MoonReapers x = night(2, 1, 2, 1, 0, 1);
        reads(c, "the first pair", x.read(0, 2, 0, 1), 1, x, 0);
        where(c, x, 0, 2, 0);
        reads(c, "from an odd cell", x.read(0, 2, 1, 1), 1, x, 0);
        where(c, x, 0, 2, 1);
        reads(c, "the last pair", x.read(0, 2, 3, 1), 1, x, 0);
        where(c, x, 1, 2, 1);
        reads(c, "from the last cell", x.read(0, 2, 4, 1), 0, x, INDEX);
        reads(c, "from behind the last cell", x.read(0, 2, 5, 1), 0, x, INDEX);
        where(c, x, 1, 2, 1);
    }

    @Says(promise = 41, words = "What the machine refuses: those that were whole ahead were (its FAULT is asked by"
            + " torn()).")
    static void indexBelowAndAbove(Check c) {
        MoonReapers x = night(0, 0, 1, 1, 2, 2);
        reads(c, "two whole and a half", x.read(0, 0, 0, 3), 2, x, INDEX);
        where(c, x, 1, 2, 0);
        for (int f : new int[] {-1, -2, -40, 5, 40, MIN, MIN + 1, MAX, MAX - 1, MAX - 39}) {
            reads(c, "from " + f, x.read(0, 0, f, 20), 0, x, INDEX);
        }
        where(c, x, 1, 2, 0);
        MoonReapers empty = night(0);
        reads(c, "of no cells", empty.read(0, 0, 0, 1), 0, empty, INDEX);
    }

    @Says(promise = 41, words = "What the machine refuses: those that were whole ahead were (its FAULT is asked by"
            + " torn()).")
    static void nothingAndAnotherLane(Check c) {
        MoonReapers x = night(1, 0, 1, 1, 2);
        for (int lane = 0; lane <= 2; lane++) {
            reads(c, "nothing as of lane " + lane, x.read(1, lane, 0, 1), 0, x, NULL);
            reads(c, "nothing, nowhere", x.read(1, lane, -1, 20), 0, x, NULL);
        }
        reads(c, "shorts as bytes", x.read(0, 0, 0, 2), 0, x, CAST);
        reads(c, "shorts as ints", x.read(0, 2, 0, 2), 0, x, CAST);
        reads(c, "shorts as ints, nowhere", x.read(0, 2, -1, 2), 0, x, CAST);
        where(c, x, 0, 0, 0);
        reads(c, "shorts as shorts", x.read(0, 1, 0, 2), 2, x, 0);
        where(c, x, 1, 2, 0);
    }

    @Says(promise = 41, words = "What the machine refuses: those that were whole ahead were (its FAULT is asked by"
            + " torn()).")
    static void nobodyIsRead(Check c) {
        MoonReapers x = night(1, 0, 1);
        reads(c, "from anywhere", x.read(0, 1, MIN, 0), 0, x, 0);
        reads(c, "from nowhere of nothing", x.read(1, 1, MAX, 0), 0, x, 0);
        reads(c, "of another lane", x.read(0, 2, 0, 0), 0, x, CAST);
    }

    @Says(promise = 41, words = "BAD: k, lane, n")
    static void noSuchReading(Check c) {
        MoonReapers x = night(0, 0, 1);
        x.read(1, 0, 0, 1);
        Bounds.each(c, "read(k, 0, 0, 1)", k -> x.read(k, 0, 0, 1), BAD, -1, 4, MIN, MAX);
        Bounds.each(c, "read(0, lane, 0, 1)", lane -> x.read(0, lane, 0, 1), BAD, -1, 3, MIN, MAX);
        Bounds.each(c, "read(0, 0, 0, n)", n -> x.read(0, 0, 0, n), BAD, -1, 21, MIN, MAX);
        Bounds.each(c, "nothing, and n", n -> x.read(1, 0, 0, n), BAD, -1, 21);
        c.due("torn() as before", x.torn(), NULL);
        where(c, x, 0, 0, 0);
    }

    @Says(promise = 41, words = "-20 less i: the i-th, whole, is BAD: then none was")
    static void theFirstAndTheLastPairIsBad(Check c) {
        for (int j = 0; j < 20; j++) {
            MoonReapers x = night();
            x.sheet(2, 2, 40);
            x.lay(2, 1, 1);
            x.lay(2, 2 * j, 3);
            c.due("the pair " + j, x.read(2, 2, 0, 20), -20 - j);
            where(c, x, 0, 0, 0);
            c.due("those ahead of it are good", x.read(2, 2, 0, j), j);
        }
    }

    @Says(promise = 41, words = "-20 less i: the i-th, whole, is BAD: then none was")
    static void whatIsBadInAPair(Check c) {
        int[][] bad = {{-1, 0}, {3, 0}, {0, -1}, {0, 3}, {MIN, 0}, {0, MAX}, {3, 3}};
        for (int[] pair : bad) {
            MoonReapers x = night(2, 1, 1, pair[0], pair[1]);
            c.due("reaper " + pair[0] + " to strip " + pair[1], x.read(0, 2, 0, 2), -21);
            where(c, x, 0, 0, 0);
        }
        MoonReapers good = night(2, 1, 1, 2, 2);
        c.due("the last reaper to the last strip", good.read(0, 2, 0, 2), 2);
        where(c, good, 0, 1, 2);
    }

    @Says(promise = 41, words = "the first met")
    static void theFirstMet(Check c) {
        MoonReapers two = night(0, 3, 0, 0, 3);
        c.due("of two bad pairs", two.read(0, 0, 0, 2), -20);
        MoonReapers x = night(0, 0, 1, 3, 0, 0);
        c.due("a bad pair ahead of what the machine refuses", x.read(0, 0, 0, 3), -21);
        c.due("torn() as before", x.torn(), 0);
        where(c, x, 0, 0, 0);
        MoonReapers half = night(0, 0, 1, 3);
        reads(c, "a bad one, not whole", half.read(0, 0, 0, 2), 1, half, INDEX);
        where(c, half, 1, 0, 0);
        MoonReapers other = night(0, 3, 3);
        reads(c, "bad, of another lane", other.read(0, 1, 0, 1), 0, other, CAST);
    }

    // ---- promise 42

    @Says(promise = 42, words = "The FAULT of the latest read() that came to an end; 0.")
    static void theLatestThatCameToAnEnd(Check c) {
        MoonReapers x = night(0, 0, 1, 3, 0);
        c.due("none yet", x.torn(), 0);
        reads(c, "what is not", x.read(0, 0, 4, 1), 0, x, INDEX);
        reads(c, "a bad pair is no end", x.read(0, 0, 0, 2), -21, x, INDEX);
        reads(c, "a bad number is no end", x.read(0, 0, 0, 21), BAD, x, INDEX);
        reads(c, "another one", x.read(0, 1, 0, 1), 0, x, CAST);
        x.lay(1, 0, 0);
        x.lay(0, 9, 0);
        x.sheet(1, 0, -1);
        c.due("only read() counts", x.torn(), CAST);
        reads(c, "a good one", x.read(0, 0, 0, 1), 1, x, 0);
        reads(c, "nothing", x.read(3, 0, 0, 1), 0, x, NULL);
        c.due("asked again", x.torn(), NULL);
    }
}

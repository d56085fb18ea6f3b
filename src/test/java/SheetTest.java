/** Promises 39 to 42: sheets, and what the machine finds in them. */
public final class SheetTest {
    private static final Check C = new Check();
    private static final int BAD = MoonReapers.BAD;

    public static void main(String[] args) {
        sheet();
        lay();
        lowestBits();
        read();
        refused();
        badPairs();
        C.finish();
    }

    private static MoonReapers night() {
        return Check.told("strip 1 0;strip 1 0;strip 1 0;reaper 1 0 0;reaper 1 0 0;reaper 1 0 0;");
    }

    private static void sheet() {
        MoonReapers x = night();
        C.due("sheet(-1, 0, 1)", x.sheet(-1, 0, 1), BAD);
        C.due("sheet(4, 0, 1)", x.sheet(4, 0, 1), BAD);
        C.due("sheet(0, -1, 1)", x.sheet(0, -1, 1), BAD);
        C.due("sheet(0, 3, 1)", x.sheet(0, 3, 1), BAD);
        C.due("sheet(0, 0, 41)", x.sheet(0, 0, 41), BAD);
        C.due("sheet(0, 0, -1)", x.sheet(0, 0, -1), -14);
        C.due("sheet(0, 0, MIN)", x.sheet(0, 0, Integer.MIN_VALUE), -14);
        C.due("sheet(4, 0, -1): BAD comes first", x.sheet(4, 0, -1), BAD);
        C.due("sheet(0, 3, -1): BAD comes first", x.sheet(0, 3, -1), BAD);
        C.due("still nothing", x.count(7), MoonReapers.NONE);
        C.due("sheet(0, 2, 40)", x.sheet(0, 2, 40), 1);
        C.due("count(7)", x.count(7), 40);
        C.due("sheet(0, 2, -1)", x.sheet(0, 2, -1), -14);
        C.due("count(7) still", x.count(7), 40);
        C.due("sheet(0, 1, 0)", x.sheet(0, 1, 0), 1);
        C.due("count(7)", x.count(7), 0);
        C.due("no cell", x.lay(0, 0, 1), -12);
        x.sheet(0, 0, 2);
        x.lay(0, 0, 2);
        x.lay(0, 1, 2);
        C.due("sheet again", x.sheet(0, 0, 4), 1);
        x.send(0, 1);
        C.due("its cells are 0", x.read(0, 0, 0, 2), 2);
        C.due("its cells are 0", x.reaper(0, 3), 0);
        C.due("its cells are 0", x.reaper(2, 3), 0);
    }

    private static void lay() {
        MoonReapers x = night();
        C.due("lay(-1, 0, 0)", x.lay(-1, 0, 0), BAD);
        C.due("lay(4, 0, 0)", x.lay(4, 0, 0), BAD);
        C.due("lay on nothing", x.lay(3, 0, 0), -11);
        C.due("lay on nothing, no such cell", x.lay(3, -1, 0), -11);
        x.sheet(3, 2, 3);
        C.due("lay(3, -1, 0)", x.lay(3, -1, 0), -12);
        C.due("lay(3, 3, 0)", x.lay(3, 3, 0), -12);
        C.due("lay(3, MAX, 0)", x.lay(3, Integer.MAX_VALUE, 0), -12);
        C.due("lay(3, 0, 1)", x.lay(3, 0, 1), 1);
        C.due("lay(3, 2, 1)", x.lay(3, 2, 1), 1);
        C.due("another sheet is not it", x.lay(2, 0, 1), -11);
    }

    private static void lowestBits() {
        MoonReapers x = night();
        int[] big = {256 + 1, 65536 + 1, 65536 + 256 + 1};
        for (int b = 0; b < big.length; b++) {
            for (int lane = 0; lane < 3; lane++) {
                x.sheet(1, lane, 2);
                x.lay(1, 0, big[b]);
                x.lay(1, 1, 2);
                boolean fits = lane == 0 || lane == 1 && big[b] == 65537;
                C.due(big[b] + " in lane " + lane, x.read(1, lane, 0, 1), fits ? 1 : -20);
            }
        }
        x.sheet(1, 0, 2);
        x.lay(1, 0, 255);
        C.due("255 is -1 as a byte", x.read(1, 0, 0, 1), -20);
        x.lay(1, 0, -256);
        C.due("-256 is 0 as a byte", x.read(1, 0, 0, 1), 1);
    }

    private static void read() {
        MoonReapers x = night();
        C.due("read(-1, 0, 0, 0)", x.read(-1, 0, 0, 0), BAD);
        C.due("read(4, 0, 0, 0)", x.read(4, 0, 0, 0), BAD);
        C.due("read(0, -1, 0, 0)", x.read(0, -1, 0, 0), BAD);
        C.due("read(0, 3, 0, 0)", x.read(0, 3, 0, 0), BAD);
        C.due("read(0, 0, 0, -1)", x.read(0, 0, 0, -1), BAD);
        C.due("read(0, 0, 0, 21)", x.read(0, 0, 0, 21), BAD);
        x.sheet(0, 1, 40);
        C.due("twenty", x.read(0, 1, 0, 20), 20);
        C.due("no fault", x.torn(), 0);
        x.lay(0, 3, 1);
        x.lay(0, 4, 1);
        x.lay(0, 5, 2);
        x.lay(0, 7, 2);
        C.due("from cell 4 on", x.read(0, 1, 4, 1), 1);
        C.due("the second one went", x.reaper(1, 3), 2);
        C.due("the first one did not", x.reaper(0, 3), 0);
        C.due("in order, the last counts", x.read(0, 1, 2, 3), 3);
        C.due("the first one went twice", x.reaper(0, 3), 2);
        C.due("none", x.read(0, 1, 0, 0), 0);
        C.due("none from beyond", x.read(0, 1, 99, 0), 0);
        C.due("no fault", x.torn(), 0);
    }

    private static void refused() {
        MoonReapers x = night();
        x.sheet(0, 0, 5);
        x.lay(0, 1, 1);
        x.lay(0, 2, 1);
        x.lay(0, 3, 2);
        C.due("two are whole", x.read(0, 0, 0, 3), 2);
        C.due("INDEX", x.torn(), 2);
        C.due("the first went", x.reaper(0, 3), 1);
        C.due("the second went", x.reaper(1, 3), 2);
        C.due("from below 0", x.read(0, 0, -1, 2), 0);
        C.due("INDEX", x.torn(), 2);
        C.due("two are there", x.read(0, 0, 0, 2), 2);
        C.due("no fault", x.torn(), 0);
        C.due("from MAX", x.read(0, 0, Integer.MAX_VALUE, 20), 0);
        C.due("INDEX", x.torn(), 2);
        C.due("from MIN", x.read(0, 0, Integer.MIN_VALUE, 20), 0);
        C.due("INDEX", x.torn(), 2);
        C.due("another lane", x.read(0, 2, 0, 1), 0);
        C.due("CAST", x.torn(), 3);
        C.due("another lane, from beyond", x.read(0, 1, 99, 1), 0);
        C.due("CAST", x.torn(), 3);
        C.due("nothing", x.read(1, 2, 0, 1), 0);
        C.due("NULL", x.torn(), 1);
        C.due("BAD does not come to an end", x.read(9, 0, 0, 0), BAD);
        C.due("NULL still", x.torn(), 1);
        C.due("no cell of nothing is read", x.read(1, 2, 0, 0), 0);
        C.due("no fault", x.torn(), 0);
        C.due("taken as of another lane, no cell read", x.read(0, 2, 0, 0), 0);
        C.due("CAST", x.torn(), 3);
        C.due("sheet(1, 0, -1)", x.sheet(1, 0, -1), -14);
        C.due("torn() is of read() alone", x.torn(), 3);
    }

    private static void badPairs() {
        MoonReapers x = night();
        x.sheet(0, 2, 7);
        x.lay(0, 1, 2);
        x.lay(0, 2, 3);
        C.due("no such reaper", x.read(0, 2, 0, 2), -21);
        C.due("none was sent", x.reaper(0, 3), 0);
        x.lay(0, 2, 1);
        x.lay(0, 3, 3);
        C.due("no such strip", x.read(0, 2, 0, 2), -21);
        x.lay(0, 4, -1);
        C.due("the first met", x.read(0, 2, 0, 3), -21);
        C.due("BAD ahead of the fault", x.read(0, 2, 0, 9), -21);
        C.due("torn()", x.torn(), 0);
        x.lay(0, 3, 0);
        C.due("the third", x.read(0, 2, 0, 9), -22);
        x.lay(0, 4, 0);
        x.lay(0, 6, 99);
        C.due("half a pair is not whole", x.read(0, 2, 0, 9), 3);
        C.due("INDEX", x.torn(), 2);
        C.due("bad from cell 6 on, not whole", x.read(0, 2, 6, 1), 0);
        C.due("from cell 5 on", x.read(0, 2, 5, 1), -20);
        C.due("INDEX still", x.torn(), 2);
        MoonReapers empty = new MoonReapers();
        empty.sheet(0, 0, 2);
        C.due("nobody to send", empty.read(0, 0, 0, 1), -20);
    }
}

/** Boundary cases of promises 23 to 27: where to begin, how much oil, clouds by odds. */
public final class BeginBoundsTest {
    private static final int BAD = Bounds.BAD, STATE = Bounds.STATE, NONE = Bounds.NONE, MIN = Bounds.MIN, MAX = Bounds.MAX;

    public static void main(String[] args) throws IllegalAccessException {
        Bounds.run(BeginBoundsTest.class);
    }

    /** A night of twelve hours with clouds in all of them, one reaper of pace 1. */
    private static MoonReapers dark(int yards) {
        MoonReapers x = Check.told("night 12;strip " + yards + " 0;reaper 1 0 0;");
        for (int t = 0; t < 12; t++) {
            x.cloud(t, true);
        }
        return x;
    }

    // ---- promise 23

    @Says(promise = 23, words = "BEGINNINGS by which it is DONE soonest: behind how many HOURS (what 0)")
    static void soonestFromNowToTheLastHour(Check c) {
        MoonReapers x = Check.told("night 12;strip 0 0;reaper 1 0 0;");
        c.due("done already", x.begin(0), 0);
        x.grow(0, 1);
        c.due("in the first hour", x.begin(0), 1);
        x.grow(0, 9);
        c.due("by three and three and three, two whettings between", x.begin(0), 11);
        x.whet(0, 0);
        c.due("in the last hour", x.begin(0), 12);
        x.grow(0, 10);
        c.due("not by one more", x.begin(0), NONE);
    }

    @Says(promise = 23, words = "10 and r: the STRIP of a REAPER, of several BEGINNINGS the first by REAPERS")
    static void ofSeveralBeginningsTheFirst(Check c) {
        MoonReapers all = Check.told("strip 0 0;strip 0 0;reaper 1 0 1;reaper 1 0 1;reaper 1 0 1;reaper 1 0 1;");
        for (int r = 0; r < 4; r++) {
            c.due("all are alike, reaper " + r, all.begin(10 + r), 0);
        }
        // one yard and two, by paces 2 and 1 in an hour: the first one must begin on strip 1, the second may anywhere
        MoonReapers two = Check.told("night 1;strip 1 0;strip 2 0;reaper 2 0 0;reaper 1 0 1;");
        c.due("hours", two.begin(0), 1);
        c.due("the first one", two.begin(10), 1);
        c.due("the second one", two.begin(11), 0);
        // the other way round the first one cuts the one yard, and the second one goes on to strip 1 by himself
        MoonReapers turned = Check.told("night 1;strip 1 0;strip 2 0;reaper 1 0 1;reaper 2 0 0;");
        c.due("hours", turned.begin(0), 1);
        c.due("the first one", turned.begin(10), 0);
        c.due("the second one", turned.begin(11), 0);
    }

    @Says(promise = 23, words = "BAD")
    static void noSuchBeginning(Check c) {
        MoonReapers x = Check.told("strip 1 0;reaper 1 0 0;reaper 1 0 0;");
        Bounds.each(c, "begin", x::begin, BAD, -1, 1, 9, 12, 13, 14, MIN, MAX);
        Bounds.each(c, "begin by what there is", x::begin, 0, 10, 11);
        MoonReapers four = Check.told("strip 1 0;reaper 1 0 0;reaper 1 0 0;reaper 1 0 0;reaper 1 0 0;");
        c.due("the fourth", four.begin(13), 0);
        c.due("no fifth", four.begin(14), BAD);
    }

    @Says(promise = 23, words = "STATE: there are no STRIPS, no REAPERS")
    static void nobodyOrNowhere(Check c) {
        c.due("no strips, no reapers", new MoonReapers().begin(0), STATE);
        c.due("no reapers", Check.told("strip 1 0;").begin(0), STATE);
        c.due("no reapers, done already", Check.told("strip 0 0;").begin(0), STATE);
        c.due("both", Check.told("strip 1 0;reaper 1 0 0;").begin(0), 1);
    }

    @Says(promise = 23, words = "NONE: by none is it DONE")
    static void doneByNoBeginning(Check c) {
        MoonReapers x = Check.told("night 2;strip 4 0;strip 4 0;reaper 2 0 0;reaper 2 0 0;");
        c.due("just so", x.begin(0), 2);
        x.grow(1, 5);
        Bounds.each(c, "one yard too many", x::begin, NONE, 0, 10, 11);
        x.grow(1, 0);
        x.go(2);
        c.due("done, and the night is over", x.begin(0), 0);
        x.grow(1, 1);
        Bounds.each(c, "the night is over", x::begin, NONE, 0, 10, 11);
    }

    // ---- promise 24

    @Says(promise = 24, words = "so that fewest YARDS stand when THE NIGHT is over, of several the first (what 0),"
            + " how many these are (1)")
    static void fewestStandByTheFirstStrip(Check c) {
        MoonReapers x = Check.told("night 1;strip 3 0;strip 9 0;strip 9 0;reaper 9 0 0;");
        c.due("the first of two", x.best(0, 0), 1);
        c.due("how many stand", x.best(0, 1), 12);
        x.go(1);
        c.due("the night is over: all are alike", x.best(0, 0), 0);
        c.due("what stands", x.best(0, 1), 18);
        MoonReapers one = Check.told("night 1;strip 3 0;reaper 9 0 0;");
        c.due("one strip", one.best(0, 0), 0);
        c.due("nothing stands", one.best(0, 1), 0);
        MoonReapers last = Check.told("night 1;" + "strip 1 0;".repeat(6) + "strip 2 0;reaper 2 0 0;");
        c.due("the last of seven", last.best(0, 0), 6);
        c.due("one on each of six", last.best(0, 1), 6);
    }

    @Says(promise = 24, words = "BAD")
    static void nobodyToBeSent(Check c) {
        MoonReapers x = Check.told("strip 1 0;reaper 1 0 0;");
        Bounds.each(c, "best(r, 0)", r -> x.best(r, 0), BAD, -1, 1, 4, MIN, MAX);
        Bounds.each(c, "best(0, what)", what -> x.best(0, what), BAD, -1, 2, 10, MIN, MAX);
    }

    // ---- promise 25

    @Says(promise = 25, words = "The least OIL (0 to 9) of a REAPER, all else as it is, by which it is DONE in THE"
            + " NIGHT.")
    static void fromNoOilToNine(Check c) {
        for (int y = 0; y <= 9; y++) {
            c.due(y + " yards under clouds", dark(y).oil(0), y);
        }
        MoonReapers over = Check.told("night 1;strip 1 0;reaper 1 0 0;");
        over.go(1);
        c.due("done, and the night is over", over.oil(0), 0);
    }

    @Says(promise = 25, words = "NONE: by none")
    static void notByNine(Check c) {
        c.due("ten yards", dark(10).oil(0), NONE);
        MoonReapers over = Check.told("night 1;strip 2 0;reaper 1 0 0;");
        over.go(1);
        c.due("the night is over", over.oil(0), NONE);
    }

    @Says(promise = 25, words = "BAD")
    static void nobodysOil(Check c) {
        Bounds.each(c, "oil", dark(1)::oil, BAD, -1, 1, 4, MIN, MAX);
    }

    // ---- promise 26

    @Says(promise = 26, words = "The least sum of OIL of all REAPERS (0 to 9 each, in place of what they have) by"
            + " which it is DONE in THE NIGHT (what 0)")
    static void fromNoOilToNineEach(Check c) {
        for (int y = 0; y <= 9; y++) {
            MoonReapers x = dark(y);
            x.fill(0, 9);
            c.due(y + " yards under clouds", x.least(0), y);
            c.due("his", x.least(10), y);
            c.due("what he has stays", x.reaper(0, 1), 9);
        }
        MoonReapers four = Check.told("night 12;strip 36 0;reaper 1 0 0;reaper 1 0 0;reaper 1 0 0;reaper 1 0 0;");
        for (int t = 0; t < 12; t++) {
            four.cloud(t, true);
        }
        c.due("nine each", four.least(0), 36);
        four.grow(0, 37);
        c.due("not by nine each", four.least(0), NONE);
        c.due("nobody, and nothing stands", new MoonReapers().least(0), 0);
    }

    @Says(promise = 26, words = "10 and r: that of a REAPER, of several the first by REAPERS")
    static void ofSeveralSumsTheFirst(Check c) {
        MoonReapers x = Check.told("night 1;strip 2 0;reaper 2 9 0;reaper 2 9 0;reaper 2 9 0;reaper 2 9 0;cloud 0;");
        c.due("one does it", x.least(0), 1);
        int[] oil = {0, 0, 0, 1};
        for (int r = 0; r < 4; r++) {
            c.due("reaper " + r, x.least(10 + r), oil[r]);
        }
    }

    @Says(promise = 26, words = "BAD")
    static void noSuchOilOfAll(Check c) {
        MoonReapers x = dark(1);
        Bounds.each(c, "least", x::least, BAD, -1, 1, 9, 11, 14, MIN, MAX);
        c.due("of nobody", new MoonReapers().least(10), BAD);
    }

    @Says(promise = 26, words = "NONE: by none")
    static void byNoOilAtAll(Check c) {
        MoonReapers x = dark(10);
        Bounds.each(c, "least", x::least, NONE, 0, 10);
        c.due("nobody, and something stands", Check.told("strip 1 0;").least(0), NONE);
        MoonReapers over = Check.told("night 1;strip 2 0;reaper 1 0 0;");
        over.go(1);
        c.due("the night is over", over.least(0), NONE);
        over.grow(0, 0);
        c.due("the night is over, it is done", over.least(0), 0);
    }

    // ---- promise 27

    @Says(promise = 27, words = "CLOUDS coming in each HOUR that is left by v out of ten (0 to 10), by itself (in"
            + " place of those told)")
    static void cloudsNeverAndAlways(Check c) {
        MoonReapers x = dark(9);
        c.due("never, though they are told", x.luck(0, 0), 1);
        c.due("never, by", x.luck(0, 1), 1);
        c.due("always", x.luck(10, 0), 0);
        c.due("always, by", x.luck(10, 1), 1);
        x.fill(0, 9);
        c.due("always, by enough oil", x.luck(10, 0), 1);
        c.due("always, by enough oil, by", x.luck(10, 1), 1);
    }

    @Says(promise = 27, words = "CLOUDS coming in each HOUR that is left by v out of ten (0 to 10), by itself (in"
            + " place of those told)")
    static void oneHourLeftAndNone(Check c) {
        MoonReapers x = Check.told("night 12;strip 1 0;reaper 1 0 0;");
        for (int t = 0; t < 12; t++) {
            x.cloud(t, true);
        }
        x.go(11);
        c.due("one hour", x.luck(1, 0), 9);
        c.due("one hour, by", x.luck(1, 1), 10);
        x.go(1);
        c.due("no hour", x.luck(1, 0), 0);
        c.due("no hour, by", x.luck(1, 1), 1);
        x.grow(0, 0);
        c.due("no hour, done", x.luck(1, 0), 1);
        c.due("no hour, done, by", x.luck(1, 1), 1);
    }

    @Says(promise = 27, words = "that it is DONE in THE NIGHT: 0, 1")
    static void theGreatestFraction(Check c) {
        // one clear hour of twelve is enough; 7 to the 12th has no factor of 10
        MoonReapers x = Check.told("night 12;strip 1 0;reaper 1 0 0;");
        c.due("part", x.luck(7, 0), 1000000000000L - 13841287201L);
        c.due("whole", x.luck(7, 1), 1000000000000L);
    }

    @Says(promise = 27, words = "BAD")
    static void noSuchOdds(Check c) {
        MoonReapers x = dark(1);
        Bounds.each(c, "luck(v, 0)", v -> x.luck(v, 0), BAD, -1, 11, MIN, MAX);
        Bounds.each(c, "luck(v, 1)", v -> x.luck(v, 1), BAD, -1, 11, MIN, MAX);
        Bounds.each(c, "luck(5, what)", what -> x.luck(5, what), BAD, -1, 2, MIN, MAX);
    }
}

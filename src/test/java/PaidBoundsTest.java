/** Boundary cases of promises 33 to 36: who began where, and nights by a seed. */
public final class PaidBoundsTest {
    private static final int BAD = Bounds.BAD, FULL = Bounds.FULL, MIN = Bounds.MIN, MAX = Bounds.MAX;

    public static void main(String[] args) throws IllegalAccessException {
        Bounds.run(PaidBoundsTest.class);
    }

    private static MoonReapers night() {
        return Check.told("night 1;strip 2 0;strip 9 0;reaper 5 0 0;reaper 4 0 0;");
    }

    // ---- promise 33

    @Says(promise = 33, words = "PAID: of a REAPER a WAGE (0 to 99): how many are.")
    static void fromNoWageToNinetyNine(Check c) {
        MoonReapers x = night();
        c.due("none", x.pay(0, 0), 1);
        c.due("the most, to the last one", x.pay(1, 99), 2);
        c.due("the same again counts", x.pay(1, 99), 3);
        c.due("PAID", x.count(4), 3);
    }

    @Says(promise = 33, words = "BAD")
    static void noSuchWage(Check c) {
        MoonReapers x = night();
        Bounds.each(c, "pay(0, wage)", wage -> x.pay(0, wage), BAD, -1, 100, MIN, MAX);
        Bounds.each(c, "pay(r, 0)", r -> x.pay(r, 0), BAD, -1, 2, 4, MIN, MAX);
        c.due("PAID", x.count(4), 0);
    }

    @Says(promise = 33, words = "FULL")
    static void noFifthIsPaid(Check c) {
        MoonReapers x = night();
        for (int k = 1; k <= 4; k++) {
            c.due("the " + k + ".", x.pay(0, 2), k);
        }
        c.due("the fifth", x.pay(1, 99), FULL);
        c.due("PAID", x.count(4), 4);
        c.due("the fifth does not count", x.fits(0), 2);
        x.owe(3);
        c.due("the fourth again", x.pay(1, 99), 4);
        c.due("it counts", x.fits(0), 0);
    }

    // ---- promise 34

    @Says(promise = 34, words = "PAID are the first n alone: how many there were.")
    static void allSomeOrNothingIsPaid(Check c) {
        MoonReapers x = night();
        c.due("none of none", x.owe(0), 0);
        x.pay(0, 2);
        x.pay(0, 5);
        c.due("all", x.owe(2), 2);
        c.due("both", x.fits(0), 0);
        c.due("the first", x.owe(1), 2);
        c.due("the first", x.fits(10), 1);
        c.due("none", x.owe(0), 1);
        c.due("all fit", x.fits(0), 4);
        for (int k = 0; k < 4; k++) {
            x.pay(0, 2);
        }
        c.due("all of four", x.owe(4), 4);
    }

    @Says(promise = 34, words = "BAD")
    static void moreThanWasPaid(Check c) {
        MoonReapers x = night();
        Bounds.each(c, "owe, nothing paid", x::owe, BAD, -1, 1, 4, MIN, MAX);
        for (int k = 1; k <= 4; k++) {
            x.pay(0, 2);
            Bounds.each(c, "owe, paid " + k, x::owe, BAD, -1, k + 1, MIN, MAX);
        }
        c.due("PAID", x.count(4), 4);
    }

    // ---- promise 35

    @Says(promise = 35, words = "BEGINNINGS that FIT: how many (what 0)")
    static void noneSomeOrAllFit(Check c) {
        c.due("one beginning", Check.told("strip 1 0;reaper 1 0 0;").fits(0), 1);
        MoonReapers all = Check.told("strip 1 0;".repeat(7) + "reaper 1 0 0;".repeat(4));
        c.due("all of them", all.fits(0), 2401);
        all.pay(0, 99);
        c.due("none", all.fits(0), 0);
        MoonReapers x = night();
        x.pay(0, 2);
        x.pay(0, 5);
        c.due("two wages of one", x.fits(0), 0);
        MoonReapers over = night();
        over.go(1);
        over.pay(0, 2);
        c.due("the night is over: all, as his wage is so", over.fits(0), 4);
        over.owe(0);
        over.pay(0, 5);
        c.due("the night is over: none, as it is not", over.fits(0), 0);
    }

    @Says(promise = 35, words = "10 and r: STRIPS of a REAPER by them (bits)")
    static void fromNoStripToAllOfThem(Check c) {
        MoonReapers all = Check.told("strip 1 0;".repeat(7) + "reaper 1 0 0;".repeat(4));
        Bounds.each(c, "all", all::fits, 127, 10, 11, 12, 13);
        all.pay(0, 99);
        Bounds.each(c, "none", all::fits, 0, 10, 11, 12, 13);
        MoonReapers last = Check.told("night 1;" + "strip 1 0;".repeat(6) + "strip 2 0;reaper 2 0 0;");
        last.pay(0, 2);
        c.due("the last alone", last.fits(10), 64);
    }

    @Says(promise = 35, words = "BAD")
    static void nobodysBeginning(Check c) {
        MoonReapers x = night();
        Bounds.each(c, "fits", x::fits, BAD, -1, 1, 9, 12, 13, 14, MIN, MAX);
        MoonReapers four = Check.told("strip 1 0;" + "reaper 1 0 0;".repeat(4));
        c.due("the fourth", four.fits(13), 1);
        c.due("no fifth", four.fits(14), BAD);
        c.due("of nobody", new MoonReapers().fits(10), BAD);
    }

    // ---- promise 36

    @Says(promise = 36, words = "are below v (0 to 10)")
    static void cloudsNeverAndAlwaysByASeed(Check c) {
        int[] seeds = {0, 1, -1, MIN, MAX, 123456789};
        for (int seed : seeds) {
            MoonReapers x = Check.told("night 3;strip 40 0;reaper 1 9 0;cloud 1;");
            c.due("never, though told: OIL", x.drift(seed, 0, 1), 9);
            c.due("always: OIL", x.drift(seed, 10, 1), 6);
            x.fill(0, 0);
            c.due("never: YARDS", x.drift(seed, 0, 0), 37);
            c.due("always: YARDS", x.drift(seed, 10, 0), 40);
        }
    }

    @Says(promise = 36, words = "in each HOUR the seed becomes seed times 1103515245 and 12345; there are CLOUDS"
            + " (in place of those told), if bits 16 to 30 of it modulo 10 are below v (0 to 10)")
    static void theSeedWrapsAround(Check c) {
        MoonReapers x = Check.told("night 1;strip 40 0;reaper 1 1 0;");
        // MAX becomes 1043980748, bits 16 to 30 of which are 15929
        c.due("MAX, not below 9", x.drift(MAX, 9, 1), 1);
        c.due("MAX, below 10", x.drift(MAX, 10, 1), 0);
        // -1 becomes the same but for bit 31, which does not count
        c.due("-1, not below 9", x.drift(-1, 9, 1), 1);
        c.due("-1, below 10", x.drift(-1, 10, 1), 0);
        // MIN becomes 2 to the 31st and 12345: bits 16 to 30 are 0
        c.due("MIN, not below 0", x.drift(MIN, 0, 1), 1);
        c.due("MIN, below 1", x.drift(MIN, 1, 1), 0);
    }

    @Says(promise = 36, words = "By itself, to the end of THE NIGHT")
    static void noHourLeftForTheSeed(Check c) {
        MoonReapers x = Check.told("night 2;strip 40 0;reaper 1 9 0;");
        x.go(1);
        c.due("one hour", x.drift(1, 10, 1), 8);
        x.go(1);
        c.due("no hour: YARDS", x.drift(1, 10, 0), 38);
        c.due("no hour: OIL", x.drift(1, 10, 1), 9);
        c.due("no strips: YARDS", new MoonReapers().drift(1, 10, 0), 0);
        c.due("nobody: OIL", new MoonReapers().drift(1, 10, 1), 0);
    }

    @Says(promise = 36, words = "BAD")
    static void noSuchDrift(Check c) {
        MoonReapers x = night();
        Bounds.each(c, "drift(1, v, 0)", v -> x.drift(1, v, 0), BAD, -1, 11, MIN, MAX);
        Bounds.each(c, "drift(1, 5, what)", what -> x.drift(1, 5, what), BAD, -1, 2, MIN, MAX);
        Bounds.each(c, "every seed is good", seed -> x.drift(seed, 0, 1), 0, MIN, -1, 0, MAX);
    }
}

/** Boundary cases of the hare, and of promises 28 to 32. */
public final class HareBoundsTest {
    private static final int BAD = Bounds.BAD, FULL = Bounds.FULL, NONE = Bounds.NONE, MIN = Bounds.MIN, MAX = Bounds.MAX;

    public static void main(String[] args) throws IllegalAccessException {
        Bounds.run(HareBoundsTest.class);
    }

    private static MoonReapers strips(int n) {
        return Check.told("strip 1 0;".repeat(n));
    }

    private static MoonReapers full() {
        MoonReapers x = strips(7);
        for (int k = 0; k < 8; k++) {
            x.see(k % 7, 0, true);
        }
        return x;
    }

    // ---- how it runs

    @Says(promise = 0, words = "THE HARE runs: in each HOUR from one STRIP to one next to it, or stays.")
    static void itDoesNotRunBeyondTheEnds(Check c) {
        int[] next = {3, 7, 14, 28, 56, 112, 96};
        for (int i = 0; i < 7; i++) {
            MoonReapers x = strips(7);
            x.see(0, i, true);
            c.due("from " + i, x.hare(1), next[i]);
        }
        MoonReapers one = strips(1);
        c.due("on the only strip it stays", one.hare(6), 1);
        MoonReapers round = strips(7);
        round.see(0, 0, true);
        round.see(1, 6, true);
        c.due("the ends are not next to each other", round.runs(), 0);
    }

    @Says(promise = 0, words = "is as all that was SEEN (ahead of that, then and behind, to 6) and is there then")
    static void whatWasSeenAheadThenAndBehind(Check c) {
        MoonReapers x = strips(7);
        x.see(3, 3, true);
        c.due("behind it by 3 hours", x.hare(6), 127);
        c.due("behind it by 1", x.hare(4), 28);
        c.due("then", x.hare(3), 8);
        c.due("ahead of it by 1", x.hare(2), 28);
        c.due("ahead of it by 3 hours", x.hare(0), 127);
        MoonReapers ends = strips(7);
        ends.see(6, 6, true);
        c.due("seen at 6, asked for now", ends.hare(0), 127);
        ends.forget(0);
        ends.see(0, 6, true);
        c.due("seen now, asked for at 6", ends.hare(6), 127);
        MoonReapers not = strips(2);
        not.see(6, 0, false);
        c.due("not there, at 6", not.hare(6), 2);
        c.due("not there, ahead of it", not.hare(5), 3);
    }

    // ---- promise 28

    @Says(promise = 28, words = "SEEN: behind n HOURS (0 to 6) THE HARE is on a STRIP, or not: how many are.")
    static void fromTheFirstHourAndStripToTheLast(Check c) {
        MoonReapers x = strips(7);
        c.due("now, the first strip", x.see(0, 0, false), 1);
        c.due("behind 6, the last strip", x.see(6, 6, true), 2);
        c.due("the same again counts", x.see(6, 6, true), 3);
        c.due("its contrary too", x.see(6, 6, false), 4);
        c.due("SEEN", x.count(3), 4);
    }

    @Says(promise = 28, words = "BAD")
    static void nothingToBeSeen(Check c) {
        MoonReapers x = strips(3);
        Bounds.each(c, "see(n, 0, true)", n -> x.see(n, 0, true), BAD, -1, 7, MIN, MAX);
        Bounds.each(c, "see(0, i, true)", i -> x.see(0, i, true), BAD, -1, 3, 7, MIN, MAX);
        Bounds.each(c, "see(0, i, false)", i -> x.see(0, i, false), BAD, -1, 3, 7, MIN, MAX);
        c.due("SEEN", x.count(3), 0);
        c.due("anywhere", x.hare(0), 7);
    }

    @Says(promise = 28, words = "FULL")
    static void noNinthIsSeen(Check c) {
        MoonReapers x = strips(7);
        for (int k = 1; k <= 8; k++) {
            c.due("the " + k + ".", x.see(0, 3, true), k);
        }
        c.due("the ninth", x.see(0, 2, true), FULL);
        c.due("SEEN", x.count(3), 8);
        c.due("the ninth is not seen", x.hare(0), 8);
        x.forget(7);
        c.due("the eighth again", x.see(0, 2, true), 8);
        c.due("it is seen", x.hare(0), 0);
    }

    // ---- promise 29

    @Says(promise = 29, words = "SEEN are the first n alone: how many there were.")
    static void allSomeOrNothingIsKept(Check c) {
        MoonReapers x = strips(7);
        c.due("none of none", x.forget(0), 0);
        x.see(0, 1, true);
        x.see(0, 2, true);
        c.due("all", x.forget(2), 2);
        c.due("both", x.hare(0), 0);
        c.due("the first", x.forget(1), 2);
        c.due("the first", x.hare(0), 2);
        c.due("none", x.forget(0), 1);
        c.due("anywhere", x.hare(0), 127);
        c.due("all of eight", full().forget(8), 8);
    }

    @Says(promise = 29, words = "BAD")
    static void moreThanWasSeen(Check c) {
        MoonReapers x = strips(2);
        Bounds.each(c, "forget, nothing seen", x::forget, BAD, -1, 1, 8, MIN, MAX);
        x.see(0, 0, true);
        Bounds.each(c, "forget, one seen", x::forget, BAD, -1, 2, 8, MIN, MAX);
        c.due("SEEN", x.count(3), 1);
        Bounds.each(c, "forget, eight seen", full()::forget, BAD, -1, 9, MIN, MAX);
    }

    // ---- promise 30

    @Says(promise = 30, words = "STRIPS on which THE HARE CAN be behind n HOURS (0 to 6; bits).")
    static void nowhereAndEverywhere(Check c) {
        for (int n = 0; n <= 6; n++) {
            c.due("no strips", new MoonReapers().hare(n), 0);
            c.due("one strip", strips(1).hare(n), 1);
            c.due("seven strips", strips(7).hare(n), 127);
        }
        MoonReapers x = strips(1);
        x.see(6, 0, false);
        for (int n = 0; n <= 6; n++) {
            c.due("nowhere at any hour", x.hare(n), 0);
        }
    }

    @Says(promise = 30, words = "BAD")
    static void noHareBehindSix(Check c) {
        Bounds.each(c, "hare", strips(3)::hare, BAD, -1, 7, MIN, MAX);
        Bounds.each(c, "hare without strips", new MoonReapers()::hare, BAD, -1, 7);
    }

    // ---- promise 31

    @Says(promise = 31, words = "Runs of 6 HOURS that are as all that was SEEN: how many.")
    static void fromNoRunToAllOfThem(Check c) {
        c.due("no strips", new MoonReapers().runs(), 0);
        c.due("one strip", strips(1).runs(), 1);
        c.due("two strips: two ways for each of seven places", strips(2).runs(), 128);
        c.due("seven strips", strips(7).runs(), 3387);
        MoonReapers one = strips(7);
        one.see(0, 0, true);
        one.see(6, 6, true);
        c.due("straight on", one.runs(), 1);
        one.see(3, 3, false);
        c.due("none", one.runs(), 0);
    }

    // ---- promise 32

    @Says(promise = 32, words = "The STRIP to look at behind n HOURS (0 to 6) so that of runs (as in runs()) fewest are"
            + " left at the worst (it is there then, or not)")
    static void lookedForFromNowToSix(Check c) {
        MoonReapers x = strips(7);
        int[] left = {3387 - 659, 3387 - 27 * 27, 3387 - 659};
        for (int k = 0; k <= 2; k++) {
            c.due("where, behind " + 3 * k, x.look(3 * k, 0), 3);
            c.due("left, behind " + 3 * k, x.look(3 * k, 1), left[k]);
        }
        x.see(0, 6, true);
        c.due("one of the last two, the first of them", x.look(1, 0), 5);
    }

    @Says(promise = 32, words = "of several the first (what 0), how many these are (1)")
    static void ofSeveralTheFirst(Check c) {
        MoonReapers x = strips(2);
        c.due("either", x.look(0, 0), 0);
        c.due("half of them are left", x.look(0, 1), 64);
        MoonReapers y = strips(7);
        y.see(0, 3, false);
        c.due("one side or the other", y.look(0, 0), 2);
    }

    @Says(promise = 32, words = "fewer than now")
    static void notFewerThanNow(Check c) {
        MoonReapers x = strips(2);
        x.see(0, 1, true);
        Bounds.each(c, "known already", what -> x.look(0, what), NONE, 0, 1);
        c.due("not known yet", x.look(1, 0), 0);
    }

    @Says(promise = 32, words = "NONE: by none")
    static void nothingToLookFor(Check c) {
        for (int n = 0; n <= 6; n++) {
            c.due("no strips", new MoonReapers().look(n, 0), NONE);
            c.due("one strip", strips(1).look(n, 0), NONE);
            c.due("one strip, how many", strips(1).look(n, 1), NONE);
        }
        MoonReapers x = strips(7);
        x.see(0, 0, true);
        x.see(0, 1, true);
        c.due("no runs", x.look(3, 0), NONE);
        c.due("no runs, how many", x.look(3, 1), NONE);
    }

    @Says(promise = 32, words = "BAD")
    static void noSuchLook(Check c) {
        MoonReapers x = strips(3);
        Bounds.each(c, "look(n, 0)", n -> x.look(n, 0), BAD, -1, 7, MIN, MAX);
        Bounds.each(c, "look(0, what)", what -> x.look(0, what), BAD, -1, 2, MIN, MAX);
    }
}

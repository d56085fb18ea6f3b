/** Boundary cases of an hour, and of promises 18 to 22. */
public final class HourBoundsTest {
    private static final int BAD = Bounds.BAD, FULL = Bounds.FULL, NONE = Bounds.NONE, MIN = Bounds.MIN, MAX = Bounds.MAX;

    public static void main(String[] args) throws IllegalAccessException {
        Bounds.run(HourBoundsTest.class);
    }

    /** One reaper with so much oil on one strip of 40 yards, in a night of three hours. */
    private static MoonReapers one(int pace, int oil) {
        return Check.told("night 3;strip 40 0;reaper " + pace + " " + oil + " 0;");
    }

    private static void reaper(Check c, MoonReapers x, int oil, int edge, int strip, int wage) {
        c.due("OIL", x.reaper(0, 1), oil);
        c.due("EDGE", x.reaper(0, 2), edge);
        c.due("STRIP", x.reaper(0, 3), strip);
        c.due("WAGE", x.reaper(0, 4), wage);
    }

    // ---- an hour

    @Says(promise = 0, words = "2 AN HOUR (while HOUR is less than HOURS)")
    static void noHourBehindTheLast(Check c) {
        MoonReapers x = one(1, 0);
        c.due("the last one", x.go(3), 3);
        c.due("none behind it", x.go(1), FULL);
        c.due("nor ahead", x.stands(0, 12), 37);
        c.due("nor by a seed", x.drift(1, 0, 0), 37);
        c.due("nor by odds", x.luck(0, 0), 0);
        c.due("not done", x.done(0), NONE);
    }

    @Says(promise = 0, words = "where no YARDS stand on his STRIP he goes to the nearest one (by numbers) with YARDS")
    static void heStaysWhereOneYardStands(Check c) {
        MoonReapers x = Check.told("strip 40 0;strip 1 0;strip 40 0;reaper 9 0 1;");
        c.due("one yard", x.go(1), 1);
        c.due("he stayed", x.reaper(0, 3), 1);
        c.due("he goes when none stands", x.go(1), 9);
        c.due("to the lesser", x.reaper(0, 3), 0);
    }

    @Says(promise = 0, words = "where no YARDS stand on his STRIP he goes to the nearest one (by numbers) with YARDS")
    static void fromOneEndToTheOther(Check c) {
        MoonReapers up = Check.told("strip 0 0;".repeat(6) + "strip 1 0;reaper 1 0 0;");
        up.go(1);
        c.due("to the last", up.reaper(0, 3), 6);
        MoonReapers down = Check.told("strip 1 0;" + "strip 0 0;".repeat(6) + "reaper 1 0 6;");
        down.go(1);
        c.due("to the first", down.reaper(0, 3), 0);
    }

    @Says(promise = 0, words = "of two the lesser")
    static void ofTwoTheLesser(Check c) {
        for (int from = 1; from <= 5; from++) {
            MoonReapers x = Check.told("strip 1 0;strip 0 0;strip 0 0;strip 0 0;strip 0 0;strip 0 0;strip 1 0;reaper 1 0 "
                    + from + ";");
            x.go(1);
            c.due("from " + from, x.reaper(0, 3), from <= 3 ? 0 : 6);
        }
    }

    @Says(promise = 0, words = "there is none: he does nothing")
    static void nothingStandsAnywhere(Check c) {
        MoonReapers x = Check.told("night 3;strip 0 0;strip 0 0;reaper 9 5 1;cloud 0;");
        x.whet(0, 0);
        c.due("nothing is cut", x.go(2), 0);
        reaper(c, x, 5, 0, 1, 0);
        c.due("nobody", x.rule(5), NONE);
        c.due("the hours went", x.rule(1), 2);
    }

    @Says(promise = 0, words = "Is his EDGE 0, he whets: it is 3, and that is all.")
    static void aDullEdge(Check c) {
        MoonReapers x = Check.told("night 3;strip 0 0;strip 9 0;reaper 1 1 0;cloud 0;");
        x.whet(0, 0);
        c.due("nothing is cut", x.go(1), 0);
        reaper(c, x, 1, 3, 1, 0);
        MoonReapers last = one(1, 0);
        last.whet(0, 1);
        c.due("he cuts by an edge of 1", last.go(1), 1);
        reaper(c, last, 0, 0, 0, 1);
        c.due("he whets", last.go(1), 0);
        reaper(c, last, 0, 3, 0, 1);
    }

    @Says(promise = 0, words = "Is his EDGE 0, he whets: it is 3, and that is all.")
    static void heWhetsUnderCloudsWithoutOil(Check c) {
        MoonReapers x = one(1, 0);
        x.cloud(0, true);
        x.whet(0, 0);
        x.go(1);
        reaper(c, x, 0, 3, 0, 0);
    }

    @Says(promise = 0, words = "Are there CLOUDS in this HOUR (by its number) and is his OIL 0, he waits.")
    static void noOilUnderClouds(Check c) {
        MoonReapers x = one(2, 0);
        x.cloud(1, true);
        c.due("no clouds in hour 0", x.go(1), 2);
        c.due("clouds in hour 1", x.go(1), 0);
        reaper(c, x, 0, 2, 0, 2);
        c.due("no clouds in hour 2", x.go(1), 2);
        MoonReapers last = Check.told("night 12;strip 40 0;reaper 1 0 0;cloud 11;");
        last.go(11);
        last.whet(0, 3);
        c.due("clouds in the last hour of twelve", last.go(1), 0);
    }

    @Says(promise = 0, words = "EDGE is 1 less, and OIL, if there are CLOUDS")
    static void theLastOilIsBurnt(Check c) {
        MoonReapers x = one(2, 1);
        x.cloud(1, true);
        x.cloud(2, true);
        c.due("by the moon", x.go(1), 2);
        reaper(c, x, 1, 2, 0, 2);
        c.due("by the last oil", x.go(1), 2);
        reaper(c, x, 0, 1, 0, 4);
        c.due("by none", x.go(1), 0);
        reaper(c, x, 0, 1, 0, 4);
    }

    @Says(promise = 0, words = "half of it, up")
    static void halfOfEveryPace(Check c) {
        int[] half = {1, 1, 2, 2, 3, 3, 4, 4, 5};
        for (int pace = 1; pace <= 9; pace++) {
            MoonReapers x = one(pace, 0);
            x.thistle(0, true);
            c.due("half of " + pace, x.go(1), half[pace - 1]);
            x.thistle(0, false);
            c.due("all of " + pace, x.go(1), pace);
        }
    }

    @Says(promise = 0, words = "no more than stand there")
    static void noMoreThanStand(Check c) {
        for (int y = 1; y <= 10; y++) {
            MoonReapers x = one(9, 0);
            x.grow(0, y);
            c.due("of " + y, x.go(1), Math.min(9, y));
            c.due("left", x.strip(0, 0), y == 10 ? 1 : 0);
        }
        MoonReapers thistly = one(9, 0);
        thistly.thistle(0, true);
        thistly.grow(0, 4);
        c.due("less than half", thistly.go(1), 4);
    }

    @Says(promise = 0, words = "DONE is the harvest when no YARDS stand.")
    static void doneAtTheLastYard(Check c) {
        MoonReapers x = one(3, 0);
        x.grow(0, 1);
        c.due("one yard", x.done(0), 1);
        x.grow(0, 0);
        c.due("no yard", x.done(0), 0);
        c.due("no strip", new MoonReapers().done(0), 0);
    }

    // ---- promise 18

    @Says(promise = 18, words = "n HOURS go (0 to 12): YARDS that are cut in them.")
    static void fromNoHourToTwelve(Check c) {
        MoonReapers x = Check.told("night 12;strip 40 0;reaper 1 0 0;");
        c.due("none", x.go(0), 0);
        c.due("HOUR", x.rule(1), 0);
        c.due("twelve, three of them of whetting", x.go(12), 9);
        c.due("HOUR", x.rule(1), 12);
        c.due("none behind the last", x.go(0), 0);
    }

    @Says(promise = 18, words = "BAD")
    static void noSuchHours(Check c) {
        MoonReapers x = one(1, 0);
        Bounds.each(c, "go", x::go, BAD, -1, 13, MIN, MAX);
        c.due("HOUR", x.rule(1), 0);
        x.go(3);
        Bounds.each(c, "go at the end", x::go, BAD, -1, 13, MIN, MAX);
    }

    @Says(promise = 18, words = "FULL: HOUR would be more than HOURS")
    static void moreHoursThanThereAre(Check c) {
        for (int hours = 1; hours < 12; hours++) {
            MoonReapers x = Check.told("night " + hours + ";strip 40 0;reaper 1 0 0;");
            c.due("one more than " + hours, x.go(hours + 1), FULL);
            c.due("twelve", x.go(12), FULL);
            c.due("nothing went", x.rule(1), 0);
            c.due("nothing was cut", x.rule(6), 40);
            x.go(1);
            c.due("one more than are left", x.go(hours), FULL);
            c.holds("all that are left", x.go(hours - 1) >= 0);
            c.due("HOUR", x.rule(1), hours);
        }
    }

    // ---- promise 19

    @Says(promise = 19, words = "behind n HOURS (0 to 12; THE NIGHT ends) from now on, as in reaper()")
    static void aheadToTheEndAndNoFurther(Check c) {
        MoonReapers x = Check.told("night 4;strip 40 0;reaper 2 3 0;cloud 1;");
        x.go(1);
        int[] wage = {2, 4, 6, 6, 6, 6, 6, 6, 6, 6, 6, 6, 6};
        int[] oil = {3, 2, 2, 2, 2, 2, 2, 2, 2, 2, 2, 2, 2};
        int[] edge = {2, 1, 0, 3, 3, 3, 3, 3, 3, 3, 3, 3, 3};
        for (int n = 0; n <= 12; n++) {
            c.due("PACE behind " + n, x.ahead(0, n, 0), 2);
            c.due("OIL behind " + n, x.ahead(0, n, 1), oil[n]);
            c.due("EDGE behind " + n, x.ahead(0, n, 2), edge[n]);
            c.due("STRIP behind " + n, x.ahead(0, n, 3), 0);
            c.due("WAGE behind " + n, x.ahead(0, n, 4), wage[n]);
        }
        c.due("HOUR has not gone", x.rule(1), 1);
    }

    @Says(promise = 19, words = "BAD")
    static void noSuchThingAhead(Check c) {
        MoonReapers x = one(1, 0);
        Bounds.each(c, "ahead(r, 0, 0)", r -> x.ahead(r, 0, 0), BAD, -1, 1, 4, MIN, MAX);
        Bounds.each(c, "ahead(0, n, 0)", n -> x.ahead(0, n, 0), BAD, -1, 13, MIN, MAX);
        Bounds.each(c, "ahead(0, 0, what)", what -> x.ahead(0, 0, what), BAD, -1, 5, MIN, MAX);
    }

    // ---- promise 20

    @Says(promise = 20, words = "YARDS that stand on a STRIP behind n HOURS (0 to 12; THE NIGHT ends).")
    static void standsToTheEndAndNoFurther(Check c) {
        MoonReapers x = Check.told("night 3;strip 40 0;strip 5 0;reaper 9 0 0;");
        int[] first = {40, 31, 22, 13, 13};
        for (int n = 0; n <= 4; n++) {
            c.due("on the first behind " + n, x.stands(0, n), first[n]);
        }
        c.due("behind twelve", x.stands(0, 12), 13);
        c.due("on the last behind twelve", x.stands(1, 12), 5);
        x.go(3);
        c.due("when the night is over", x.stands(0, 12), 13);
        c.due("none below none", Check.told("strip 1 0;reaper 9 0 0;").stands(0, 12), 0);
    }

    @Says(promise = 20, words = "BAD")
    static void noSuchStripStands(Check c) {
        MoonReapers x = one(1, 0);
        Bounds.each(c, "stands(i, 0)", i -> x.stands(i, 0), BAD, -1, 1, 7, MIN, MAX);
        Bounds.each(c, "stands(0, n)", n -> x.stands(0, n), BAD, -1, 13, MIN, MAX);
    }

    // ---- promise 21

    @Says(promise = 21, words = "Behind how many HOURS from now on it is DONE (what 0; NONE: not in THE NIGHT)")
    static void doneNowInTheLastHourOrNot(Check c) {
        MoonReapers x = one(3, 0);
        x.grow(0, 9);
        c.due("in the last hour", x.done(0), 3);
        x.grow(0, 10);
        c.due("one yard too many", x.done(0), NONE);
        x.go(2);
        x.grow(0, 3);
        c.due("from now on", x.done(0), 1);
        x.go(1);
        c.due("the night is over, it is done", x.done(0), 0);
        x.grow(0, 1);
        c.due("the night is over, it is not", x.done(0), NONE);
    }

    @Says(promise = 21, words = "THE BRIDE when THE NIGHT is over (1; NONE: nobody)")
    static void theBrideWhenTheNightIsOver(Check c) {
        c.due("nobody is there", new MoonReapers().done(1), NONE);
        MoonReapers x = Check.told("night 1;strip 1 0;reaper 1 0 0;cloud 0;");
        c.due("nobody cuts", x.done(1), NONE);
        x.fill(0, 1);
        c.due("the first one", x.done(1), 0);
        c.due("not yet", x.rule(5), NONE);
        x.go(1);
        c.due("when it is over", x.done(1), 0);
        MoonReapers four = Check.told("night 1;strip 4 0;reaper 1 0 0;reaper 1 0 0;reaper 1 0 0;reaper 1 0 0;");
        c.due("the last one", four.done(1), 3);
    }

    @Says(promise = 21, words = "BAD")
    static void doneOfNothingElse(Check c) {
        Bounds.each(c, "done", one(1, 0)::done, BAD, -1, 2, MIN, MAX);
    }

    // ---- promise 22

    @Says(promise = 22, words = "YARDS that stand when THE NIGHT is over.")
    static void allSomeOrNothingIsLeft(Check c) {
        c.due("no strips", new MoonReapers().left(), 0);
        c.due("nobody cuts", Check.told("strip 40 0;".repeat(7)).left(), 280);
        MoonReapers x = one(3, 0);
        c.due("some", x.left(), 31);
        x.grow(0, 9);
        c.due("nothing", x.left(), 0);
        x.grow(0, 10);
        c.due("one yard", x.left(), 1);
        x.go(3);
        c.due("when it is over", x.left(), 1);
    }
}

/** Boundary cases of promises 37 and 38, and of promise 43. */
public final class ImageBoundsTest {
    private static final int BAD = Bounds.BAD, STATE = Bounds.STATE, NONE = Bounds.NONE, MIN = Bounds.MIN, MAX = Bounds.MAX;

    public static void main(String[] args) throws IllegalAccessException {
        Bounds.run(ImageBoundsTest.class);
    }

    // ---- promise 37

    @Says(promise = 37, words = "IMAGE k (0, 1) is STRIPS, REAPERS (all of them), CLOUDS, HOUR, HARVESTS, THE BRIDE,"
            + " what was SEEN, PAID")
    static void anImageOfAnEmptyNight(Check c) {
        MoonReapers x = new MoonReapers();
        String empty = Portrait.of(x);
        x.keep(0);
        c.due("back at once", x.back(0), 0);
        c.holds("nothing changed but that there is one", Portrait.of(x).equals(empty.replaceFirst("count 0 count 0 count 0",
                "count 0 count 0 count 1")));
    }

    @Says(promise = 37, words = "IMAGE k (0, 1) is STRIPS, REAPERS (all of them), CLOUDS, HOUR, HARVESTS, THE BRIDE,"
            + " what was SEEN, PAID")
    static void anImageOfAFullNight(Check c) {
        MoonReapers x = Check.told("night 12;" + "strip 40 3;".repeat(7) + "reaper 9 9 6;".repeat(4) + "cloud 11;");
        for (int k = 0; k < 8; k++) {
            x.see(6, 6, true);
            x.pay(3, 99);
        }
        x.go(12);
        x.keep(1);
        String full = Portrait.of(x);
        x.forget(0);
        x.owe(0);
        for (int i = 0; i < 7; i++) {
            x.grow(i, 0);
            x.own(i, 0);
            x.thistle(i, true);
        }
        for (int r = 0; r < 4; r++) {
            x.fill(r, 0);
            x.whet(r, 0);
            x.send(r, 0);
        }
        x.cloud(11, false);
        c.holds("all was changed", !Portrait.of(x).equals(full));
        c.due("back", x.back(1), 12);
        c.holds("all is as it was", Portrait.of(x).equals(full));
    }

    @Says(promise = 37, words = "whether there was one (1, 0)")
    static void keptForTheFirstTimeAndAgain(Check c) {
        MoonReapers x = Check.told("strip 1 0;");
        Bounds.each(c, "for the first time", x::keep, 0, 0, 1);
        Bounds.each(c, "again", x::keep, 1, 0, 1);
        x.back(0);
        Bounds.each(c, "behind back() there is one still", x::keep, 1, 0, 1);
        c.due("IMAGES", x.count(5), 2);
    }

    @Says(promise = 37, words = "BAD")
    static void noSuchImageToKeep(Check c) {
        MoonReapers x = Check.told("strip 1 0;");
        Bounds.each(c, "keep", x::keep, BAD, -1, 2, 32, MIN, MAX);
        c.due("IMAGES", x.count(5), 0);
    }

    // ---- promise 38

    @Says(promise = 38, words = "All is as IMAGE k: HOUR.")
    static void backFromTheEndToTheFirstHour(Check c) {
        MoonReapers x = Check.told("night 3;strip 9 1;reaper 2 0 0;");
        x.keep(0);
        x.go(3);
        x.keep(1);
        c.due("to the first hour", x.back(0), 0);
        c.due("nobody cut yet", x.rule(5), NONE);
        c.due("nothing was cut yet", x.harvest(1), 0);
        c.due("the hours go again", x.go(3), 6);
        x.back(0);
        c.due("to the end", x.back(1), 3);
        c.due("no hour is left", x.go(1), Bounds.FULL);
        c.due("to the end again", x.back(1), 3);
    }

    @Says(promise = 38, words = "BAD")
    static void noSuchImageToGoBackTo(Check c) {
        MoonReapers x = Check.told("strip 1 0;");
        Bounds.each(c, "back, none kept", x::back, BAD, -1, 2, 32, MIN, MAX);
        x.keep(0);
        x.keep(1);
        Bounds.each(c, "back, both kept", x::back, BAD, -1, 2, 32, MIN, MAX);
    }

    @Says(promise = 38, words = "STATE: there is none")
    static void noImageYet(Check c) {
        MoonReapers x = Check.told("night 3;strip 9 1;reaper 2 0 0;");
        x.go(1);
        Bounds.each(c, "none kept", x::back, STATE, 0, 1);
        x.keep(1);
        c.due("the other one", x.back(0), STATE);
        c.due("this one", x.back(1), 1);
        c.due("HOUR", x.rule(1), 1);
    }

    // ---- promise 43

    @Says(promise = 43, words = "How many: 0 STRIPS with YARDS, 1 all WAGES, 2 all OIL, 3 SEEN, 4 PAID, 5 IMAGES, 6"
            + " bytes on THE TAPE")
    static void fromNoneToTheMost(Check c) {
        MoonReapers x = new MoonReapers();
        Bounds.each(c, "none", x::count, 0, 0, 1, 2, 3, 4, 5, 6);
        Check.read(x, "night 12;" + "strip 40 0;".repeat(7) + "reaper 9 9 0;".repeat(4));
        c.due("all STRIPS have YARDS", x.count(0), 7);
        c.due("nine OIL each", x.count(2), 36);
        for (int k = 0; k < 9; k++) {
            x.see(0, 0, true);
            x.pay(0, 0);
            x.keep(k % 2);
        }
        c.due("SEEN", x.count(3), 8);
        c.due("PAID", x.count(4), 4);
        c.due("IMAGES", x.count(5), 2);
        Check.feed(x, " ".repeat(161));
        c.due("bytes", x.count(6), 160);
        x.go(12);
        c.due("nine cuts of nine each are more than stand", x.count(1), 280);
        c.due("no STRIP has YARDS", x.count(0), 0);
    }

    @Says(promise = 43, words = "7 CELLS of SHEET 0 (NONE: nothing)")
    static void cellsOfTheFirstSheet(Check c) {
        MoonReapers x = new MoonReapers();
        c.due("nothing", x.count(7), NONE);
        x.sheet(3, 0, 7);
        c.due("another one is not it", x.count(7), NONE);
        x.sheet(0, 0, -1);
        c.due("a refused one is none", x.count(7), NONE);
        x.sheet(0, 0, 0);
        c.due("no cells are not nothing", x.count(7), 0);
        x.sheet(0, 2, 40);
        c.due("the most", x.count(7), 40);
    }

    @Says(promise = 43, words = "BAD")
    static void nothingElseIsCounted(Check c) {
        Bounds.each(c, "count", new MoonReapers()::count, BAD, -1, 8, MIN, MAX);
    }
}

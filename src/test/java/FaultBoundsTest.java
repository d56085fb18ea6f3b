/** Boundary cases of the tape's tokens and of each of its faults. */
public final class FaultBoundsTest {
    public static void main(String[] args) throws IllegalAccessException {
        Bounds.run(FaultBoundsTest.class);
    }

    // ---- tokens

    @Says(promise = 0, words = "TOKENS, each as long as may be")
    static void aTokenIsAsLongAsMayBe(Check c) {
        Bounds.told(c, "nightnight 3;", -10, 2);
        Bounds.told(c, "strip 12;", -18, 2);
        c.due("two figures are one number", Bounds.told(c, "strip 12 1;", 1, 0).strip(0, 0), 12);
        Bounds.told(c, "night 3strip 1 0;", -17, 2);
    }

    @Says(promise = 0, words = "blanks (32) between")
    static void blanks(Check c) {
        Bounds.told(c, " night 3 ; ", 1, 0);
        Bounds.told(c, "night          3;", 1, 0);
        Bounds.told(c, "night3;strip1 0;", 2, 0);
        Bounds.told(c, "night 3 ;strip 1 0 ;", 2, 0);
        Bounds.told(c, "ni ght 3;", -10, 2);
        Bounds.told(c, "night 1 2;", -18, 2);
    }

    @Says(promise = 0, words = "blanks (32) between")
    static void noOtherByteIsABlank(Check c) {
        for (int b : new int[] {0, 9, 10, 13, 31, 33, 127}) {
            Bounds.told(c, (char) b + "night 3;", -10, 1);
            Bounds.told(c, "night" + (char) b + "3;", -15, 1);
            Bounds.told(c, "night 3;" + (char) b, -18, 1);
        }
    }

    @Says(promise = 0, words = "NAMES (a .. z)")
    static void namesAreOfSmallLetters(Check c) {
        Bounds.told(c, "a 3;", -10, 2);
        Bounds.told(c, "z 3;", -10, 2);
        Bounds.told(c, "` 3;", -10, 1);
        Bounds.told(c, "{ 3;", -10, 1);
        Bounds.told(c, "Night 3;", -10, 1);
        Bounds.told(c, "nighT 3;", -10, 2);
        Bounds.told(c, "nigh`t 3;", -10, 2);
        Bounds.told(c, "night` 3;", -15, 1);
        Bounds.told(c, "night_ 3;", -15, 1);
    }

    @Says(promise = 0, words = "NUMBERS (1 or 2 figures)")
    static void numbersHaveOneOrTwoFigures(Check c) {
        c.due("one", Bounds.told(c, "night 9;", 1, 0).rule(0), 9);
        c.due("two", Bounds.told(c, "night 12;", 1, 0).rule(0), 12);
        c.due("a 0 ahead", Bounds.told(c, "night 09;", 1, 0).rule(0), 9);
        c.due("twice 0", Bounds.told(c, "strip 00 00;", 1, 0).strip(0, 0), 0);
        Bounds.told(c, "night /;", -16, 1);
        Bounds.told(c, "night :;", -16, 1);
        Bounds.told(c, "night 3:;", -17, 1);
        Bounds.told(c, "night -3;", -16, 1);
        Bounds.told(c, "night +3;", -16, 1);
    }

    @Says(promise = 0, words = "one ; .")
    static void aStopIsOneByte(Check c) {
        Bounds.told(c, "night 3;", 1, 0);
        Bounds.told(c, "night 3;;", -18, 2);
        Bounds.told(c, ";night 3;", -10, 2);
        Bounds.told(c, "night 3:", -17, 1);
        Bounds.told(c, "night 3<", -17, 1);
        Bounds.told(c, "night 3.", -17, 1);
    }

    @Says(promise = 0, words = "text: { line }")
    static void aTextMayHaveNoLine(Check c) {
        Bounds.told(c, "", 0, 0);
        Bounds.told(c, " ", 0, 0);
        Bounds.told(c, " ".repeat(160), 0, 0);
    }

    @Says(promise = 0, words = "his PACE, OIL, STRIP (0 to 6)")
    static void theStripOfAReaper(Check c) {
        String seven = "strip 1 0;".repeat(7);
        c.due("the first", Bounds.told(c, seven + "reaper 1 0 0;", 8, 0).reaper(0, 3), 0);
        c.due("the last", Bounds.told(c, seven + "reaper 1 0 6;", 8, 0).reaper(0, 3), 6);
        Bounds.told(c, seven + "reaper 1 0 7;", -91, 3);
    }

    @Says(promise = 0, words = "cloud: an HOUR (0 to 11) with CLOUDS")
    static void theHourOfACloud(Check c) {
        c.due("the first", Bounds.told(c, "night 12;cloud 0;", 2, 0).rule(2), 1);
        c.due("the last", Bounds.told(c, "night 12;cloud 11;", 2, 0).rule(2), 1 << 11);
        Bounds.told(c, "night 12;cloud 12;", -25, 3);
        Bounds.told(c, "night 12;cloud 99;", -25, 3);
    }

    @Says(promise = 0, words = "thistle: a STRIP (0 to 6) with THISTLES")
    static void theStripOfThistles(Check c) {
        String seven = "strip 1 0;".repeat(7);
        c.due("the first", Bounds.told(c, seven + "thistle 0;", 8, 0).strip(0, 2), 1);
        c.due("the last", Bounds.told(c, seven + "thistle 6;", 8, 0).strip(6, 2), 1);
        Bounds.told(c, seven + "thistle 7;", -88, 3);
    }

    // ---- faults

    @Says(promise = 0, words = "1 no TOKEN, a NUMBER that is too long (its first byte)")
    static void fault1(Check c) {
        Bounds.told(c, "#", -10, 1);
        Bounds.told(c, "night #", -16, 1);
        Bounds.told(c, "night 3#", -17, 1);
        Bounds.told(c, "night 3; #", -19, 1);
        Bounds.told(c, "100", -10, 1);
        Bounds.told(c, "night 000;", -16, 1);
        Bounds.told(c, "night 100;", -16, 1);
        Bounds.told(c, "night 3000000000;", -16, 1);
        Bounds.told(c, "night  4294967299;", -17, 1);
        Bounds.told(c, "strip 1 100", -18, 1);
        Bounds.told(c, "1".repeat(160), -10, 1);
    }

    @Says(promise = 0, words = "2 a TOKEN that can not stand there (a NAME that begins no line")
    static void fault2(Check c) {
        Bounds.told(c, "n 3;", -10, 2);
        Bounds.told(c, "nigh 3;", -10, 2);
        Bounds.told(c, "nights 3;", -10, 2);
        Bounds.told(c, "reape 1 0 0;", -10, 2);
        Bounds.told(c, "z".repeat(160), -10, 2);
        Bounds.told(c, "3;", -10, 2);
        Bounds.told(c, ";", -10, 2);
        Bounds.told(c, "night;", -15, 2);
        Bounds.told(c, "night night;", -16, 2);
        Bounds.told(c, "night 3 night", -18, 2);
        Bounds.told(c, "night 3 4;", -18, 2);
        Bounds.told(c, "strip 1;", -17, 2);
        Bounds.told(c, "strip 1 0 0;", -20, 2);
        Bounds.told(c, "reaper 1 0;", -20, 2);
        Bounds.told(c, "reaper 1 0 0 0;", -23, 2);
        Bounds.told(c, "cloud;", -15, 2);
        Bounds.told(c, "cloud 0 0;", -18, 2);
        Bounds.told(c, "thistle;", -17, 2);
        Bounds.told(c, "thistle 0 0;", -20, 2);
    }

    @Says(promise = 0, words = "or the end: the length")
    static void fault2AtTheEnd(Check c) {
        Bounds.told(c, "night", -15, 2);
        Bounds.told(c, "night ", -16, 2);
        Bounds.told(c, "night 3", -17, 2);
        Bounds.told(c, "night 3   ", -20, 2);
        Bounds.told(c, "strip 1", -17, 2);
        Bounds.told(c, "reaper 1 0", -20, 2);
        Bounds.told(c, "night 3;cloud", -23, 2);
        Bounds.told(c, "thistle 1" + " ".repeat(151), -170, 2);
    }

    @Says(promise = 0, words = "3 a NUMBER out of its bounds")
    static void fault3(Check c) {
        Bounds.told(c, "night 00;", -16, 3);
        Bounds.told(c, "night 99;", -16, 3);
        Bounds.told(c, "strip 40 99;", -19, 3);
        Bounds.told(c, "reaper 9 9 9;", -21, 3);
        Bounds.told(c, "cloud 13;", -16, 3);
        Bounds.told(c, "thistle 10;", -18, 3);
    }

    @Says(promise = 0, words = "4 night for the second time (its NAME)")
    static void fault4OfNight(Check c) {
        Bounds.told(c, "night 3;night 4;", -18, 4);
        Bounds.told(c, "night 3; night", -19, 4);
        Bounds.told(c, "night 8;strip 1 0;night 8;", -28, 4);
        Bounds.told(c, "strip 1 0;night 8;", 2, 0);
    }

    @Says(promise = 0, words = "an HOUR of cloud, a STRIP of thistle told already (it)")
    static void fault4OfCloudAndThistle(Check c) {
        Bounds.told(c, "cloud 0;cloud 0;", -24, 4);
        Bounds.told(c, "cloud 11;cloud 11;", -25, 4);
        Bounds.told(c, "cloud 7;cloud 07;", -24, 4);
        Bounds.told(c, "cloud 7;cloud 6;cloud 7", -32, 4);
        Bounds.told(c, "thistle 0;thistle 0;", -28, 4);
        Bounds.told(c, "thistle 6;thistle 6;", -28, 4);
        Bounds.told(c, "strip 1 0;thistle 0;cloud 0;", 3, 0);
    }

    @Says(promise = 0, words = "5 the 8th strip, the 5th reaper (its NAME)")
    static void fault5(Check c) {
        String seven = "strip 1 0;".repeat(7);
        String four = "reaper 1 0 0;".repeat(4);
        Bounds.told(c, seven + "strip", -80, 5);
        Bounds.told(c, seven + " strip 41 0;", -81, 5);
        Bounds.told(c, four + "reaper", -62, 5);
        Bounds.told(c, seven + four + "reaper 1 0 0;", -132, 5);
        Bounds.told(c, seven + four, 11, 0);
    }

    @Says(promise = 0, words = "Behind all (the length): 6 a STRIP, an HOUR that there is not.")
    static void fault6(Check c) {
        Bounds.told(c, "reaper 1 0 0;", -23, 6);
        Bounds.told(c, "strip 1 0;reaper 1 0 0;", 2, 0);
        Bounds.told(c, "strip 1 0;reaper 1 0 1;", -33, 6);
        Bounds.told(c, "reaper 1 0 1;strip 1 0;strip 1 0;", 3, 0);
        Bounds.told(c, "thistle 0;", -20, 6);
        Bounds.told(c, "thistle 0;strip 1 0;", 2, 0);
        Bounds.told(c, "thistle 1;strip 1 0;", -30, 6);
        Bounds.told(c, "cloud 7;", 1, 0);
        Bounds.told(c, "cloud 8;", -18, 6);
        Bounds.told(c, "cloud 8;night 9;", 2, 0);
        Bounds.told(c, "night 1;cloud 0;", 2, 0);
        Bounds.told(c, "night 1;cloud 1;  ", -28, 6);
        Bounds.told(c, "cloud 11;night 11;", -28, 6);
        Bounds.told(c, "cloud 8;" + " ".repeat(152), -170, 6);
    }

    @Says(promise = 0, words = "the first met as it is read (a TOKEN is read when the one before has been taken)")
    static void theFirstMet(Check c) {
        Bounds.told(c, "night 0 #", -16, 3);
        Bounds.told(c, "x#", -10, 2);
        Bounds.told(c, "night 3;night#", -18, 4);
        Bounds.told(c, "cloud 3;cloud 3#", -24, 4);
        Bounds.told(c, "strip 1 0;".repeat(7) + "strip#", -80, 5);
        Bounds.told(c, "cloud 12 123", -16, 3);
        Bounds.told(c, "night night 123", -16, 2);
        Bounds.told(c, "reaper 1 0 6;cloud 9;x", -31, 2);
        Bounds.told(c, "reaper 1 0 6;cloud 9;", -31, 6);
    }

    // ---- what a text that is taken does

    @Says(promise = 0, words = "A text that is taken tells all, in place of what there was")
    static void aTextTellsAllAnew(Check c) {
        MoonReapers x = Check.told("night 3;strip 9 1;strip 5 2;reaper 4 2 1;cloud 0;thistle 0;");
        x.go(2);
        c.due("an empty text", Check.read(x, ""), 0);
        int[] rules = {8, 0, 0, 0, 0, Bounds.NONE, 0};
        for (int what = 0; what < rules.length; what++) {
            c.due("rule(" + what + ")", x.rule(what), rules[what]);
        }
        for (int o = 0; o <= 3; o++) {
            c.due("harvest(" + o + ")", x.harvest(o), 0);
        }
        c.due("strip(0, 0)", x.strip(0, 0), Bounds.BAD);
        c.due("reaper(0, 0)", x.reaper(0, 0), Bounds.BAD);
        Check.read(x, "strip 1 0;strip 1 0;reaper 1 0 0;");
        c.due("no thistles any more", x.strip(0, 2), 0);
        c.due("the edge is sharp again", x.reaper(0, 2), 3);
    }

    @Says(promise = 0, words = "nothing is SEEN, PAID")
    static void aTextForgetsWhatWasSeenAndPaid(Check c) {
        MoonReapers x = Check.told("strip 1 0;strip 1 0;reaper 1 0 0;");
        x.see(0, 0, true);
        x.pay(0, 99);
        Check.read(x, "strip 1 0;strip 1 0;reaper 1 0 0;");
        c.due("SEEN", x.count(3), 0);
        c.due("the hare is anywhere", x.hare(0), 3);
        c.due("PAID", x.count(4), 0);
        c.due("all beginnings fit", x.fits(0), 2);
    }

    @Says(promise = 0, words = "IMAGES are gone")
    static void aTextTakesTheImages(Check c) {
        MoonReapers x = Check.told("strip 1 0;");
        x.keep(0);
        x.keep(1);
        Check.read(x, "");
        c.due("IMAGES", x.count(5), 0);
        c.due("back(0)", x.back(0), Bounds.STATE);
        c.due("back(1)", x.back(1), Bounds.STATE);
        c.due("keep(0) finds none", x.keep(0), 0);
    }
}

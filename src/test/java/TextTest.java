/** Promises 2 to 5: the tape, its text, its faults. */
public final class TextTest {
    private static final Check C = new Check();

    public static void main(String[] args) {
        tape();
        whatIsTaken();
        faults1and2();
        faults3();
        faults4to6();
        firstMet();
        whatStays();
        C.finish();
    }

    private static void tape() {
        MoonReapers x = new MoonReapers();
        C.due("feed(-1)", x.feed(-1), MoonReapers.BAD);
        C.due("feed(128)", x.feed(128), MoonReapers.BAD);
        C.due("feed(MIN)", x.feed(Integer.MIN_VALUE), MoonReapers.BAD);
        C.due("count(6)", x.count(6), 0);
        C.due("feed(0)", x.feed(0), 1);
        C.due("feed(127)", x.feed(127), 2);
        for (int k = 3; k <= 160; k++) {
            C.due("feed " + k, x.feed(';'), k);
        }
        C.due("feed 161", x.feed(';'), MoonReapers.FULL);
        C.due("feed(128) when full", x.feed(128), MoonReapers.BAD);
        C.due("count(6)", x.count(6), 160);
        C.due("end(161)", x.end(161), MoonReapers.BAD);
        C.due("end(-1)", x.end(-1), MoonReapers.BAD);
        C.due("end(160)", x.end(160), 160);
        C.due("end(5)", x.end(5), 160);
        C.due("end(6)", x.end(6), MoonReapers.BAD);
        C.due("count(6)", x.count(6), 5);
        C.due("feed behind", x.feed('a'), 6);
        C.due("end(0)", x.end(0), 6);
        C.due("end(0) again", x.end(0), 0);
        Check.feed(x, "night 5;x");
        C.due("end keeps the first", x.end(8), 9);
        C.due("text()", x.text(), 1);
        C.due("rule(0)", x.rule(0), 5);
        C.due("the tape is empty then", x.count(6), 0);
    }

    private static void whatIsTaken() {
        MoonReapers x = Check.told("strip 40 3;strip 0 0;reaper 9 9 1;reaper 1 0 0;night 12;cloud 11;cloud 0;thistle 1;");
        C.due("HOURS", x.rule(0), 12);
        C.due("CLOUDS", x.rule(2), 1 << 11 | 1);
        C.due("STRIPS", x.rule(3), 2);
        C.due("REAPERS", x.rule(4), 2);
        C.due("YARDS", x.strip(0, 0), 40);
        C.due("OWNER", x.strip(0, 1), 3);
        C.due("no THISTLES", x.strip(0, 2), 0);
        C.due("THISTLES", x.strip(1, 2), 1);
        int[] first = {9, 9, 3, 1, 0};
        int[] second = {1, 0, 3, 0, 0};
        for (int what = 0; what < 5; what++) {
            C.due("reaper(0, " + what + ")", x.reaper(0, what), first[what]);
            C.due("reaper(1, " + what + ")", x.reaper(1, what), second[what]);
        }
        read(x, "  night 03 ;  strip 7  1  ; ", 2, 0);
        C.due("figures with a 0 ahead", x.rule(0), 3);
        C.due("only what the text tells", x.rule(4), 0);
        read(x, "night12;strip07 1;", 2, 0);
        C.due("no blanks between a name and a number", x.rule(0), 12);
        read(x, "", 0, 0);
        C.due("an empty text: 8 hours", x.rule(0), 8);
        C.due("an empty text: no strips", x.rule(3), 0);
        read(x, "   ", 0, 0);
        read(x, "strip 1 0;strip 1 0;strip 1 0;strip 1 0;strip 1 0;strip 1 0;strip 1 0;"
                + "reaper 1 0 6;reaper 1 0 6;reaper 1 0 6;reaper 1 0 6;", 11, 0);
        read(x, "reaper 1 0 0;strip 1 0;cloud 7;thistle 0;", 4, 0);
    }

    private static void faults1and2() {
        MoonReapers x = new MoonReapers();
        read(x, "Night 3;", -10, 1);
        read(x, "night\t3;", -15, 1);
        read(x, "night 3;#", -18, 1);
        read(x, "night 123;", -16, 1);
        read(x, "night 0003;", -16, 1);
        read(x, "123", -10, 1);
        read(x, "strip 1 2 100", -20, 1);
        read(x, "\0", -10, 1);
        read(x, "night -1;", -16, 1);
        read(x, "nights 3;", -10, 2);
        read(x, "nigh 3;", -10, 2);
        read(x, "eight 3;", -10, 2);
        read(x, "nighs 3;", -10, 2);
        read(x, "nipht 3;", -10, 2);
        read(x, "zloud 3;", -10, 2);
        read(x, "a", -10, 2);
        read(x, ";", -10, 2);
        read(x, "7", -10, 2);
        read(x, "night 3;;", -18, 2);
        read(x, "night;", -15, 2);
        read(x, "night 3", -17, 2);
        read(x, "night 3  ", -19, 2);
        read(x, "night", -15, 2);
        read(x, "night 3 4;", -18, 2);
        read(x, "night strip;", -16, 2);
        read(x, "strip 3 night;", -18, 2);
        read(x, "reaper 3 3 ;", -21, 2);
        read(x, "cloud ;", -16, 2);
        read(x, "thistle 1 strip", -20, 2);
        read(x, "night 3 a", -18, 2);
        read(x, "strip 1 1night 3;", -19, 2);
    }

    private static void faults3() {
        MoonReapers x = new MoonReapers();
        read(x, "night 0;", -16, 3);
        read(x, "night 13;", -16, 3);
        read(x, "strip 41 0;", -16, 3);
        read(x, "strip 40 4;", -19, 3);
        read(x, "reaper 0 0 0;", -17, 3);
        read(x, "reaper 10 0 0;", -17, 3);
        read(x, "reaper 9 10 0;", -19, 3);
        read(x, "reaper 9 9 7;", -21, 3);
        read(x, "cloud 12;", -16, 3);
        read(x, "thistle 7;", -18, 3);
    }

    private static void faults4to6() {
        MoonReapers x = new MoonReapers();
        read(x, "night 3; night 3;", -19, 4);
        read(x, "night 3;night", -18, 4);
        read(x, "cloud 3;cloud 03;", -24, 4);
        read(x, "cloud 3;cloud 2;cloud 3", -32, 4);
        read(x, "strip 1 1;thistle 0;thistle 0;", -38, 4);
        read(x, "reaper 1 1 0;reaper 1 1 0;reaper 1 1 0;reaper 1 1 0; reaper", -63, 5);
        read(x, "strip 1 1;strip 1 1;strip 1 1;strip 1 1;strip 1 1;strip 1 1;strip 1 1;strip ?", -80, 5);
        read(x, "reaper 1 1 0;", -23, 6);
        read(x, "strip 1 1;reaper 1 1 1; ", -34, 6);
        read(x, "strip 1 1;thistle 1;", -30, 6);
        read(x, "thistle 0;", -20, 6);
        read(x, "cloud 8;", -18, 6);
        read(x, "cloud 5;night 5;", -26, 6);
        read(x, "cloud 4;night 5;", 2, 0);
        read(x, "night 9;cloud 8;", 2, 0);
    }

    /** A token is read when the one before has been taken: what is behind a fault does not count. */
    private static void firstMet() {
        MoonReapers x = new MoonReapers();
        read(x, "night 13 123;", -16, 3);
        read(x, "night 3;night 123;", -18, 4);
        read(x, "x 123 $", -10, 2);
        read(x, "cloud 9;night 0;", -24, 3);
        read(x, "cloud 9;$", -18, 1);
        read(x, "strip 41 123;", -16, 3);
        C.due("fault() stays to the next text()", x.fault(), 3);
        read(x, "night 3;", 1, 0);
    }

    private static void whatStays() {
        MoonReapers x = Check.told("night 3;strip 9 0;strip 3 1;reaper 9 0 0;cloud 2;thistle 1;");
        x.go(1);
        x.see(0, 1, true);
        x.pay(0, 9);
        x.keep(1);
        read(x, "night 5;strip 1 1;strip", -33, 2);
        C.due("the tape is empty", x.count(6), 0);
        C.due("HOURS", x.rule(0), 3);
        C.due("HOUR", x.rule(1), 1);
        C.due("CLOUDS", x.rule(2), 4);
        C.due("STRIPS", x.rule(3), 2);
        C.due("THE BRIDE", x.rule(5), 0);
        C.due("HARVEST", x.harvest(0), 9);
        C.due("SEEN", x.count(3), 1);
        C.due("PAID", x.count(4), 1);
        C.due("IMAGES", x.count(5), 1);
        x.sheet(0, 1, 6);
        read(x, "strip 2 1;", 1, 0);
        C.due("HOURS anew", x.rule(0), 8);
        C.due("HOUR anew", x.rule(1), 0);
        C.due("CLOUDS anew", x.rule(2), 0);
        C.due("REAPERS anew", x.rule(4), 0);
        C.due("THE BRIDE anew", x.rule(5), MoonReapers.NONE);
        C.due("HARVEST anew", x.harvest(0), 0);
        C.due("THISTLES anew", x.strip(0, 2), 0);
        C.due("SEEN anew", x.count(3), 0);
        C.due("PAID anew", x.count(4), 0);
        C.due("IMAGES anew", x.count(5), 0);
        C.due("back(1)", x.back(1), MoonReapers.STATE);
        C.due("SHEETS stay", x.count(7), 6);
    }

    private static void read(MoonReapers x, String text, int answer, int fault) {
        C.due("text() of <" + text + ">", Check.read(x, text), answer);
        C.due("fault() of <" + text + ">", x.fault(), fault);
    }
}

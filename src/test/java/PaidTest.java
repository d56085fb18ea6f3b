/** Promises 33 to 35: who began where. */
public final class PaidTest {
    private static final Check C = new Check();
    private static final int BAD = MoonReapers.BAD;

    public static void main(String[] args) {
        payAndOwe();
        fits();
        C.finish();
    }

    private static void payAndOwe() {
        MoonReapers x = Check.told("strip 1 0;reaper 1 0 0;reaper 1 0 0;");
        C.due("pay(2, 0)", x.pay(2, 0), BAD);
        C.due("pay(-1, 0)", x.pay(-1, 0), BAD);
        C.due("pay(0, -1)", x.pay(0, -1), BAD);
        C.due("pay(0, 100)", x.pay(0, 100), BAD);
        C.due("pay(0, 99)", x.pay(0, 99), 1);
        C.due("pay(1, 0)", x.pay(1, 0), 2);
        C.due("pay(1, 0)", x.pay(1, 0), 3);
        C.due("pay(1, 0)", x.pay(1, 0), 4);
        C.due("pay(1, 0) more", x.pay(1, 0), MoonReapers.FULL);
        C.due("pay(2, 0) more", x.pay(2, 0), BAD);
        C.due("count(4)", x.count(4), 4);
        C.due("owe(5)", x.owe(5), BAD);
        C.due("owe(-1)", x.owe(-1), BAD);
        C.due("owe(4)", x.owe(4), 4);
        C.due("owe(1)", x.owe(1), 4);
        C.due("owe(2)", x.owe(2), BAD);
        C.due("the first is kept", x.fits(0), 0);
        C.due("owe(0)", x.owe(0), 1);
        C.due("fits again", x.fits(0), 1);
    }

    private static void fits() {
        MoonReapers x = Check.told("night 1;strip 2 0;strip 9 0;strip 9 0;reaper 5 0 0;reaper 4 0 0;");
        C.due("all fit", x.fits(0), 9);
        C.due("all fit", x.fits(10), 7);
        C.due("all fit", x.fits(11), 7);
        x.pay(0, 2);
        C.due("the first on strip 0", x.fits(0), 3);
        C.due("the first on strip 0", x.fits(10), 1);
        C.due("the second anywhere", x.fits(11), 7);
        x.pay(1, 2);
        C.due("the second not at all", x.fits(0), 0);
        C.due("the second not at all", x.fits(11), 0);
        x.owe(0);
        x.pay(1, 2);
        C.due("the second on strip 0, the first elsewhere", x.fits(0), 2);
        C.due("the first", x.fits(10), 6);
        C.due("the second", x.fits(11), 1);
        C.due("fits(12)", x.fits(12), BAD);
        C.due("fits(1)", x.fits(1), BAD);
        C.due("fits(9)", x.fits(9), BAD);
        C.due("fits(-1)", x.fits(-1), BAD);
        C.due("nobody went", x.reaper(0, 3), 0);
        MoonReapers many = Check.told("strip 1 0;".repeat(7) + "reaper 1 0 0;".repeat(4));
        C.due("all of 7 strips and 4 reapers", many.fits(0), 2401);
        // the seven yards are cut in two hours: two by each, but one by the last
        many.pay(3, 1);
        C.due("all of them fit", many.fits(0), 2401);
        for (int r = 0; r < 4; r++) {
            C.due("anywhere", many.fits(10 + r), 127);
        }
        MoonReapers late = Check.told("night 2;strip 9 0;strip 1 0;reaper 3 0 0;");
        late.go(1);
        late.pay(0, 4);
        C.due("WAGES of before count", late.fits(0), 1);
        C.due("where", late.fits(10), 2);
        late.go(1);
        C.due("the night is over", late.fits(0), 0);
        late.owe(0);
        late.pay(0, 6);
        C.due("the night is over, all fit", late.fits(10), 3);
    }
}

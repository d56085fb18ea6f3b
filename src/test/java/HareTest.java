/** Promises 28 to 32: the hare. */
public final class HareTest {
    private static final Check C = new Check();
    private static final int BAD = MoonReapers.BAD;

    public static void main(String[] args) {
        seeAndForget();
        hare();
        runs();
        look();
        C.finish();
    }

    private static MoonReapers strips(int n) {
        return Check.told("strip 1 0;".repeat(n));
    }

    private static void seeAndForget() {
        MoonReapers x = strips(3);
        C.due("see(7, 0, true)", x.see(7, 0, true), BAD);
        C.due("see(-1, 0, true)", x.see(-1, 0, true), BAD);
        C.due("see(0, 3, true)", x.see(0, 3, true), BAD);
        C.due("see(0, -1, false)", x.see(0, -1, false), BAD);
        C.due("nothing seen", x.count(3), 0);
        for (int k = 1; k <= 8; k++) {
            C.due("see " + k, x.see(k == 8 ? 6 : 0, 2, true), k);
        }
        C.due("see 9", x.see(0, 0, true), MoonReapers.FULL);
        C.due("see 9, bad", x.see(0, 3, true), BAD);
        C.due("forget(9)", x.forget(9), BAD);
        C.due("forget(-1)", x.forget(-1), BAD);
        C.due("forget(8)", x.forget(8), 8);
        C.due("forget(1)", x.forget(1), 8);
        C.due("forget(2)", x.forget(2), BAD);
        C.due("the first is kept", x.hare(0), 4);
        C.due("the last is not", x.hare(6), 7);
        C.due("forget(0)", x.forget(0), 1);
        C.due("all again", x.hare(0), 7);
    }

    private static void hare() {
        MoonReapers x = strips(7);
        C.due("hare(-1)", x.hare(-1), BAD);
        C.due("hare(7)", x.hare(7), BAD);
        C.due("anywhere", x.hare(6), 127);
        x.see(0, 0, true);
        int[] from0 = {1, 3, 7, 15, 31, 63, 127};
        for (int n = 0; n <= 6; n++) {
            C.due("hare(" + n + ")", x.hare(n), from0[n]);
        }
        x.see(6, 6, true);
        for (int n = 0; n <= 6; n++) {
            C.due("straight on, hare(" + n + ")", x.hare(n), 1 << n);
        }
        x.see(3, 3, false);
        for (int n = 0; n <= 6; n++) {
            C.due("nowhere, hare(" + n + ")", x.hare(n), 0);
        }
        C.due("no run", x.runs(), 0);
        C.due("nothing to look for", x.look(0, 0), MoonReapers.NONE);
        x.forget(0);
        x.see(6, 0, true);
        C.due("what comes behind counts too", x.hare(4), 7);
        C.due("what comes behind counts too", x.hare(0), 127);
        x.go(1);
        C.due("hours that go change nothing of what was seen", x.hare(6), 1);
        MoonReapers one = strips(1);
        C.due("one strip", one.hare(3), 1);
        one.see(3, 0, false);
        C.due("not there", one.hare(0), 0);
    }

    private static void runs() {
        C.due("one strip", strips(1).runs(), 1);
        C.due("two strips", strips(2).runs(), 128);
        C.due("three strips", strips(3).runs(), 577);
        MoonReapers x = strips(7);
        int all = x.runs();
        int sum = 0;
        for (int i = 0; i < 7; i++) {
            x.see(2, i, true);
            sum += x.runs();
            x.forget(0);
        }
        C.due("all runs are somewhere", sum, all);
        x.see(0, 0, true);
        x.see(6, 5, true);
        C.due("five steps on and one stay", x.runs(), 6);
        x.see(6, 4, true);
        C.due("at two places", x.runs(), 0);
    }

    private static void look() {
        MoonReapers x = strips(2);
        C.due("look(0, 0), of several the first", x.look(0, 0), 0);
        C.due("look(0, 1)", x.look(0, 1), 64);
        C.due("look(-1, 0)", x.look(-1, 0), BAD);
        C.due("look(7, 0)", x.look(7, 0), BAD);
        C.due("look(0, 2)", x.look(0, 2), BAD);
        C.due("look(0, -1)", x.look(0, -1), BAD);
        x.see(0, 1, true);
        C.due("known", x.look(0, 0), MoonReapers.NONE);
        C.due("known", x.look(0, 1), MoonReapers.NONE);
        C.due("not then", x.look(6, 0), 0);
        C.due("look(6, 1)", x.look(6, 1), 32);
        MoonReapers three = strips(3);
        C.due("the middle", three.look(3, 0), 1);
        three.see(3, 1, true);
        int there = three.runs();
        three.forget(0);
        C.due("at the worst", three.look(3, 1), Math.max(there, 577 - there));
        C.due("one strip", strips(1).look(0, 0), MoonReapers.NONE);
    }
}

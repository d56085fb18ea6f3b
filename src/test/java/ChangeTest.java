/** Promises 10 to 17: what is changed. */
public final class ChangeTest {
    private static final Check C = new Check();
    private static final int BAD = MoonReapers.BAD;

    public static void main(String[] args) {
        send();
        lend();
        whetAndFill();
        cloud();
        thistle();
        ownAndGrow();
        C.finish();
    }

    private static MoonReapers night() {
        return Check.told("night 5;strip 10 2;strip 4 0;strip 7 3;strip 1 1;reaper 3 2 0;reaper 9 7 1;reaper 5 9 3;");
    }

    private static void send() {
        MoonReapers x = night();
        C.due("send(0, 2)", x.send(0, 2), 0);
        C.due("send(0, 2) again", x.send(0, 2), 2);
        C.due("his STRIP", x.reaper(0, 3), 2);
        C.due("who is there", x.strip(2, 3), 1);
        C.due("send(2, 0)", x.send(2, 0), 3);
        C.due("send(3, 0)", x.send(3, 0), BAD);
        C.due("send(-1, 0)", x.send(-1, 0), BAD);
        C.due("send(0, 4)", x.send(0, 4), BAD);
        C.due("send(0, -1)", x.send(0, -1), BAD);
        C.due("his STRIP still", x.reaper(0, 3), 2);
    }

    private static void lend() {
        MoonReapers x = night();
        C.due("lend(0, 1, 2) to one next to him", x.lend(0, 1, 2), 9);
        C.due("OIL of the first", x.reaper(0, 1), 0);
        C.due("OIL of the second", x.reaper(1, 1), 9);
        C.due("lend(0, 1, 0)", x.lend(0, 1, 0), 9);
        C.due("lend(0, 1, 1) that he has not", x.lend(0, 1, 1), MoonReapers.STATE);
        C.due("lend(2, 1, 1) from afar", x.lend(2, 1, 1), MoonReapers.STATE);
        C.due("lend(2, 1, 0) from afar", x.lend(2, 1, 0), MoonReapers.STATE);
        x.send(2, 2);
        C.due("lend(2, 1, 1) to a full one", x.lend(2, 1, 1), MoonReapers.FULL);
        C.due("lend(1, 2, 1) to a full one", x.lend(1, 2, 1), MoonReapers.FULL);
        C.due("lend(2, 1, 0)", x.lend(2, 1, 0), 9);
        x.send(0, 1);
        C.due("lend(1, 0, 9) on the same strip", x.lend(1, 0, 9), 9);
        C.due("lend(1, 0, 1): STATE comes ahead of FULL", x.lend(1, 0, 1), MoonReapers.STATE);
        C.due("lend(1, 1, 0)", x.lend(1, 1, 0), BAD);
        C.due("lend(0, 3, 0)", x.lend(0, 3, 0), BAD);
        C.due("lend(3, 0, 0)", x.lend(3, 0, 0), BAD);
        C.due("lend(-1, 0, 0)", x.lend(-1, 0, 0), BAD);
        C.due("lend(0, -1, 0)", x.lend(0, -1, 0), BAD);
        C.due("lend(0, 1, 10)", x.lend(0, 1, 10), BAD);
        C.due("lend(0, 1, -1)", x.lend(0, 1, -1), BAD);
        C.due("all OIL", x.count(2), 18);
        x.fill(1, 5);
        C.due("lend(1, 0, -1)", x.lend(1, 0, -1), BAD);
        C.due("OIL of the one", x.reaper(1, 1), 5);
        C.due("OIL of the other", x.reaper(0, 1), 9);
    }

    private static void whetAndFill() {
        MoonReapers x = night();
        C.due("whet(0, 0)", x.whet(0, 0), 3);
        C.due("whet(0, 2)", x.whet(0, 2), 0);
        C.due("whet(0, 3)", x.whet(0, 3), 2);
        C.due("whet(0, 4)", x.whet(0, 4), BAD);
        C.due("whet(0, -1)", x.whet(0, -1), BAD);
        C.due("whet(3, 1)", x.whet(3, 1), BAD);
        C.due("whet(-1, 1)", x.whet(-1, 1), BAD);
        C.due("his EDGE", x.reaper(0, 2), 3);
        C.due("fill(1, 0)", x.fill(1, 0), 7);
        C.due("fill(1, 9)", x.fill(1, 9), 0);
        C.due("fill(1, 10)", x.fill(1, 10), BAD);
        C.due("fill(1, -1)", x.fill(1, -1), BAD);
        C.due("fill(3, 1)", x.fill(3, 1), BAD);
        C.due("fill(-1, 1)", x.fill(-1, 1), BAD);
        C.due("his OIL", x.reaper(1, 1), 9);
    }

    private static void cloud() {
        MoonReapers x = night();
        C.due("cloud(0, true)", x.cloud(0, true), 0);
        C.due("cloud(4, true)", x.cloud(4, true), 0);
        C.due("cloud(4, true) again", x.cloud(4, true), 1);
        C.due("bits", x.rule(2), 17);
        C.due("cloud(0, false)", x.cloud(0, false), 1);
        C.due("cloud(0, false) again", x.cloud(0, false), 0);
        C.due("cloud(5, true)", x.cloud(5, true), BAD);
        C.due("cloud(5, false)", x.cloud(5, false), BAD);
        C.due("cloud(-1, true)", x.cloud(-1, true), BAD);
        C.due("cloud(36, true)", x.cloud(36, true), BAD);
        C.due("bits", x.rule(2), 16);
        x.go(2);
        C.due("an HOUR that went", x.cloud(0, true), 0);
        C.due("bits", x.rule(2), 17);
    }

    private static void thistle() {
        MoonReapers x = night();
        C.due("thistle(3, true)", x.thistle(3, true), 0);
        C.due("thistle(3, true) again", x.thistle(3, true), 1);
        C.due("strip(3, 2)", x.strip(3, 2), 1);
        C.due("strip(2, 2)", x.strip(2, 2), 0);
        C.due("thistle(3, false)", x.thistle(3, false), 1);
        C.due("strip(3, 2)", x.strip(3, 2), 0);
        C.due("thistle(4, true)", x.thistle(4, true), BAD);
        C.due("thistle(-1, true)", x.thistle(-1, true), BAD);
    }

    private static void ownAndGrow() {
        MoonReapers x = night();
        C.due("own(0, 3)", x.own(0, 3), 2);
        C.due("own(0, 0)", x.own(0, 0), 3);
        C.due("own(0, 4)", x.own(0, 4), BAD);
        C.due("own(0, -1)", x.own(0, -1), BAD);
        C.due("own(4, 0)", x.own(4, 0), BAD);
        C.due("own(-1, 0)", x.own(-1, 0), BAD);
        C.due("whose", x.strip(0, 1), 0);
        x.go(1);
        C.due("the harvest is the new owner's", x.harvest(0), 3 + 4);
        x.own(0, 1);
        C.due("what was cut stays whose it was", x.harvest(0), 7);
        C.due("grow(1, 40)", x.grow(1, 40), 0);
        C.due("grow(1, 0)", x.grow(1, 0), 40);
        C.due("grow(1, 41)", x.grow(1, 41), BAD);
        C.due("grow(1, -1)", x.grow(1, -1), BAD);
        C.due("grow(4, 1)", x.grow(4, 1), BAD);
        C.due("grow(-1, 1)", x.grow(-1, 1), BAD);
        C.due("YARDS", x.strip(1, 0), 0);
    }
}

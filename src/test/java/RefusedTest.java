import java.util.ArrayList;
import java.util.List;
import java.util.function.Supplier;
import java.util.function.ToLongFunction;

/**
 * The terms say: what is refused changes nothing. Of two objects made alike one is asked what is refused, and then
 * both must be alike still, in all that can be asked. The same for calls that only ask, or whose numbers leave all as
 * it is.
 */
public final class RefusedTest {
    private static final int BAD = Bounds.BAD, STATE = Bounds.STATE, FULL = Bounds.FULL, NONE = Bounds.NONE;
    private static final int MIN = Bounds.MIN, MAX = Bounds.MAX;
    private static final Check C = new Check();

    private record Asked(String call, ToLongFunction<MoonReapers> how, long due) { }

    public static void main(String[] args) {
        List<Supplier<MoonReapers>> states = List.of(MoonReapers::new, RefusedTest::amidst, RefusedTest::full);
        for (Supplier<MoonReapers> state : states) {
            for (Asked asked : refusedAlways()) {
                changesNothing(state, asked);
            }
        }
        for (Asked asked : refusedAmidst()) {
            changesNothing(RefusedTest::amidst, asked);
        }
        for (Asked asked : refusedWhenFull()) {
            changesNothing(RefusedTest::full, asked);
        }
        for (Asked asked : askedAmidst()) {
            changesNothing(RefusedTest::amidst, asked);
        }
        C.finish();
    }

    private static void changesNothing(Supplier<MoonReapers> state, Asked asked) {
        MoonReapers x = state.get();
        MoonReapers y = state.get();
        C.due(asked.call, asked.how.applyAsLong(x), asked.due);
        String got = Portrait.whole(x);
        String due = Portrait.whole(y);
        if (!got.equals(due)) {
            System.out.println("behind " + asked.call + "\n" + got + "\ndue\n" + due);
        }
        C.holds(asked.call + " changes nothing", got.equals(due));
    }

    /** A night of which two hours of five went, with an image, sheets, bytes on the tape, things seen and paid. */
    private static MoonReapers amidst() {
        MoonReapers x = Check.told("night 5;strip 9 2;strip 4 0;strip 7 3;reaper 3 2 0;reaper 2 7 2;cloud 1;cloud 3;"
                + "thistle 2;");
        x.keep(0);
        x.go(2);
        x.see(2, 1, false);
        x.see(4, 2, true);
        x.pay(1, 4);
        sheets(x);
        Check.feed(x, "night 4;strip 8 1;#");
        return x;
    }

    /** The night is over; nothing more can be fed, seen, paid, lent. */
    private static MoonReapers full() {
        MoonReapers x = Check.told("night 2;strip 9 2;strip 4 0;reaper 3 9 0;reaper 2 9 1;");
        x.go(2);
        for (int k = 0; k < 8; k++) {
            x.see(k % 7, 0, true);
            x.pay(k % 2, k + 3);
        }
        x.keep(0);
        x.keep(1);
        sheets(x);
        Check.feed(x, "night 4;strip 8 1;" + " ".repeat(142));
        return x;
    }

    private static void sheets(MoonReapers x) {
        x.sheet(0, 0, 4);
        x.lay(0, 1, 1);
        x.lay(0, 2, 1);
        x.sheet(1, 2, 3);
        x.lay(1, 0, 1);
        x.lay(1, 1, 1);
        x.sheet(2, 1, 2);
        x.lay(2, 0, 77);
        x.read(0, 1, 0, 1);
    }

    private static void bad(List<Asked> all, String call, ToLongFunction<MoonReapers> how) {
        all.add(new Asked(call, how, BAD));
    }

    /** Numbers that are never good. */
    private static List<Asked> refusedAlways() {
        List<Asked> all = new ArrayList<>();
        for (int n : new int[] {MIN, -1, 128, MAX}) {
            bad(all, "feed " + n, x -> x.feed(n));
        }
        for (int n : new int[] {MIN, -1, 161, MAX}) {
            bad(all, "end " + n, x -> x.end(n));
            bad(all, "rule " + n, x -> x.rule(n));
            bad(all, "strip " + n, x -> x.strip(n, 0));
            bad(all, "reaper " + n, x -> x.reaper(n, 0));
            bad(all, "harvest " + n, x -> x.harvest(n));
            bad(all, "send reaper " + n, x -> x.send(n, 0));
            bad(all, "send to strip " + n, x -> x.send(0, n));
            bad(all, "lend by " + n, x -> x.lend(n, 0, 0));
            bad(all, "lend to " + n, x -> x.lend(0, n, 0));
            bad(all, "lend oil " + n, x -> x.lend(0, 1, n));
            bad(all, "whet reaper " + n, x -> x.whet(n, 1));
            bad(all, "whet to " + n, x -> x.whet(0, n));
            bad(all, "fill reaper " + n, x -> x.fill(n, 1));
            bad(all, "fill with " + n, x -> x.fill(0, n));
            bad(all, "cloud " + n, x -> x.cloud(n, true));
            bad(all, "thistle " + n, x -> x.thistle(n, true));
            bad(all, "own strip " + n, x -> x.own(n, 1));
            bad(all, "own by " + n, x -> x.own(0, n));
            bad(all, "grow strip " + n, x -> x.grow(n, 1));
            bad(all, "grow to " + n, x -> x.grow(0, n));
            bad(all, "go " + n, x -> x.go(n));
            refusedThinking(all, n);
            refusedImagesAndSheets(all, n);
        }
        return all;
    }

    private static void refusedThinking(List<Asked> all, int n) {
        bad(all, "ahead of reaper " + n, x -> x.ahead(n, 0, 0));
        bad(all, "ahead by hours " + n, x -> x.ahead(0, n, 0));
        bad(all, "stands on " + n, x -> x.stands(n, 0));
        bad(all, "stands behind " + n, x -> x.stands(0, n));
        bad(all, "done " + n, x -> x.done(n));
        bad(all, "begin " + n, x -> x.begin(n));
        bad(all, "best of reaper " + n, x -> x.best(n, 0));
        bad(all, "oil " + n, x -> x.oil(n));
        bad(all, "least " + n, x -> x.least(n));
        bad(all, "luck by " + n, x -> x.luck(n, 0));
        bad(all, "luck, what " + n, x -> x.luck(5, n));
        bad(all, "see behind " + n, x -> x.see(n, 0, true));
        bad(all, "see on " + n, x -> x.see(0, n, true));
        bad(all, "forget " + n, x -> x.forget(n));
        bad(all, "hare " + n, x -> x.hare(n));
        bad(all, "look behind " + n, x -> x.look(n, 0));
        bad(all, "look, what " + n, x -> x.look(0, n));
        bad(all, "pay reaper " + n, x -> x.pay(n, 1));
        bad(all, "pay wage " + n, x -> x.pay(0, n));
        bad(all, "owe " + n, x -> x.owe(n));
        bad(all, "fits " + n, x -> x.fits(n));
        bad(all, "drift by " + n, x -> x.drift(1, n, 0));
        bad(all, "drift, what " + n, x -> x.drift(1, 5, n));
    }

    private static void refusedImagesAndSheets(List<Asked> all, int n) {
        bad(all, "keep " + n, x -> x.keep(n));
        bad(all, "back " + n, x -> x.back(n));
        bad(all, "sheet " + n, x -> x.sheet(n, 0, 1));
        bad(all, "sheet of lane " + n, x -> x.sheet(0, n, 1));
        bad(all, "lay on " + n, x -> x.lay(n, 0, 1));
        bad(all, "read " + n, x -> x.read(n, 0, 0, 1));
        bad(all, "read as of lane " + n, x -> x.read(0, n, 0, 1));
        bad(all, "read so many: " + n, x -> x.read(0, 0, 0, n));
        bad(all, "count " + n, x -> x.count(n));
        if (n < 0) {
            all.add(new Asked("sheet of size " + n, x -> x.sheet(0, 0, n), -14));
        } else {
            bad(all, "sheet of size " + n, x -> x.sheet(0, 0, n));
        }
    }

    private static List<Asked> refusedAmidst() {
        List<Asked> all = new ArrayList<>();
        bad(all, "lend to himself", x -> x.lend(1, 1, 1));
        bad(all, "cloud behind the last hour", x -> x.cloud(5, true));
        bad(all, "cloud behind the last hour, none", x -> x.cloud(5, false));
        bad(all, "a strip too far", x -> x.send(0, 3));
        bad(all, "a reaper too many", x -> x.send(2, 0));
        bad(all, "more than was seen", x -> x.forget(3));
        bad(all, "more than was paid", x -> x.owe(2));
        bad(all, "more than was fed", x -> x.end(20));
        all.add(new Asked("lend afar", x -> x.lend(0, 1, 1), STATE));
        all.add(new Asked("lend what he has not", x -> x.lend(0, 1, 9), STATE));
        all.add(new Asked("go too far", x -> x.go(4), FULL));
        all.add(new Asked("no such image", x -> x.back(1), STATE));
        all.add(new Asked("lay on nothing", x -> x.lay(3, 0, 1), -11));
        all.add(new Asked("lay below", x -> x.lay(0, -1, 1), -12));
        all.add(new Asked("lay above", x -> x.lay(0, 4, 1), -12));
        all.add(new Asked("a bad pair", x -> x.read(2, 1, 0, 1), -20));
        return all;
    }

    private static List<Asked> refusedWhenFull() {
        List<Asked> all = new ArrayList<>();
        all.add(new Asked("feed", x -> x.feed('x'), FULL));
        all.add(new Asked("see", x -> x.see(0, 1, true), FULL));
        all.add(new Asked("pay", x -> x.pay(0, 1), FULL));
        all.add(new Asked("lend", x -> x.lend(0, 1, 1), FULL));
        all.add(new Asked("go", x -> x.go(1), FULL));
        all.add(new Asked("go far", x -> x.go(12), FULL));
        all.add(new Asked("begin", x -> x.begin(0), NONE));
        all.add(new Asked("least", x -> x.least(0), NONE));
        all.add(new Asked("oil", x -> x.oil(0), NONE));
        return all;
    }

    /**
     * Calls that think ahead. 3, 4 and 5 yards stand, the last with thistles, and three hours are left, in which each
     * cuts, whets and cuts: 3 and 3 by the first one, 1 and 1 by the second.
     */
    private static List<Asked> askedAmidst() {
        List<Asked> all = new ArrayList<>();
        all.add(new Asked("ahead", x -> x.ahead(0, 12, 4), 12));
        all.add(new Asked("stands", x -> x.stands(1, 12), 1));
        all.add(new Asked("done", x -> x.done(0), NONE));
        all.add(new Asked("done, the bride", x -> x.done(1), 1));
        all.add(new Asked("left", x -> x.left(), 4));
        all.add(new Asked("begin", x -> x.begin(0), NONE));
        all.add(new Asked("best, where", x -> x.best(1, 0), 0));
        all.add(new Asked("best, how many", x -> x.best(1, 1), 4));
        all.add(new Asked("oil", x -> x.oil(0), NONE));
        all.add(new Asked("least", x -> x.least(0), NONE));
        all.add(new Asked("luck", x -> x.luck(0, 0), 0));
        all.add(new Asked("drift", x -> x.drift(7, 0, 0), 4));
        all.add(new Asked("fault", x -> x.fault(), 0));
        all.add(new Asked("torn", x -> x.torn(), 3));
        all.add(new Asked("go no hour", x -> x.go(0), 0));
        all.add(new Asked("keep all the seen", x -> x.forget(2), 2));
        all.add(new Asked("keep all the paid", x -> x.owe(1), 1));
        all.add(new Asked("keep all the tape", x -> x.end(19), 19));
        return all;
    }
}

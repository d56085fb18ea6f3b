/** Promise 27: clouds by odds. */
public final class LuckTest {
    private static final Check C = new Check();

    public static void main(String[] args) {
        MoonReapers x = Check.told("night 1;strip 3 0;reaper 3 0 0;cloud 0;");
        odds(x, 0, 1, 1);
        odds(x, 10, 0, 1);
        odds(x, 3, 7, 10);
        odds(x, 5, 1, 2);
        odds(x, 4, 3, 5);
        C.due("CLOUDS stay as told", x.rule(2), 1);
        C.due("HOUR", x.rule(1), 0);
        C.due("luck(-1, 0)", x.luck(-1, 0), MoonReapers.BAD);
        C.due("luck(11, 0)", x.luck(11, 0), MoonReapers.BAD);
        C.due("luck(5, 2)", x.luck(5, 2), MoonReapers.BAD);
        C.due("luck(5, -1)", x.luck(5, -1), MoonReapers.BAD);
        x.fill(0, 1);
        odds(x, 10, 1, 1);
        // one clear hour of two is enough: 1 - 0.09 by 3 of ten
        odds(Check.told("night 2;strip 3 0;reaper 3 0 0;"), 3, 91, 100);
        // both must be clear
        odds(Check.told("night 2;strip 6 0;reaper 3 0 0;"), 3, 49, 100);
        // by one lamp, one of the two may be cloudy
        odds(Check.told("night 2;strip 6 0;reaper 3 1 0;"), 3, 91, 100);
        MoonReapers over = Check.told("night 2;strip 6 0;reaper 3 1 0;");
        over.go(1);
        odds(over, 3, 1, 1);
        over.fill(0, 0);
        odds(over, 3, 7, 10);
        over.go(1);
        odds(over, 3, 1, 1);
        over.grow(0, 1);
        odds(over, 3, 0, 1);
        odds(over, 0, 0, 1);
        // eleven hours, all of which must be clear but for the two of whetting
        long part = 1;
        for (int k = 0; k < 9; k++) {
            part *= 9;
        }
        odds(Check.told("night 11;strip 36 0;strip 36 0;strip 9 0;reaper 9 0 0;"), 1, part, 1000000000L);
        odds(Check.told("night 11;strip 36 0;strip 36 0;strip 10 0;reaper 9 0 0;"), 1, 0, 1);
        // one clear hour of twelve is enough: 1 less 3 to the 12th by 10 to the 12th
        odds(Check.told("night 12;strip 3 0;reaper 3 0 0;"), 3, 1000000000000L - 531441L, 1000000000000L);
        MoonReapers eleven = Check.told("night 12;strip 3 0;reaper 3 0 0;cloud 0;");
        eleven.go(1);
        odds(eleven, 3, 100000000000L - 177147L, 100000000000L);
        odds(Check.told("strip 1 0;"), 5, 0, 1);
        odds(Check.told("strip 0 0;"), 5, 1, 1);
        C.finish();
    }

    private static void odds(MoonReapers x, int v, long part, long whole) {
        C.due("luck(" + v + ", 0)", x.luck(v, 0), part);
        C.due("luck(" + v + ", 1)", x.luck(v, 1), whole);
    }
}

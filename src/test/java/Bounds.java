import java.lang.reflect.InvocationTargetException;
import java.lang.reflect.Method;
import java.util.ArrayList;
import java.util.Arrays;
import java.util.Comparator;
import java.util.List;
import java.util.function.IntToLongFunction;

/** Tests of boundary cases: each method that bears Says is a test of its own, and makes its own objects. */
final class Bounds {
    static final int BAD = MoonReapers.BAD, STATE = MoonReapers.STATE, FULL = MoonReapers.FULL, NONE = MoonReapers.NONE;
    static final int MIN = Integer.MIN_VALUE, MAX = Integer.MAX_VALUE;

    /** Every class of boundary tests; BoundsListTest looks through them. */
    static final List<Class<?>> ALL = List.of(TermsBoundsTest.class, FaultBoundsTest.class, TextBoundsTest.class,
            TellBoundsTest.class, ChangeBoundsTest.class, HourBoundsTest.class, BeginBoundsTest.class,
            HareBoundsTest.class, PaidBoundsTest.class, ImageBoundsTest.class, SheetBoundsTest.class);

    private Bounds() {
    }

    /** A new object to which a text is told, the answer and the FAULT being those that are due. */
    static MoonReapers told(Check c, String text, int answer, int fault) {
        MoonReapers x = new MoonReapers();
        c.due("text() of <" + text + ">", Check.read(x, text), answer);
        c.due("fault() of <" + text + ">", x.fault(), fault);
        return x;
    }

    /** The same answer to each of several numbers. */
    static void each(Check c, String call, IntToLongFunction asked, long due, int... numbers) {
        for (int n : numbers) {
            c.due(call + " by " + n, asked.applyAsLong(n), due);
        }
    }

    static List<Method> testsOf(Class<?> tests) {
        List<Method> found = new ArrayList<>();
        for (Method m : tests.getDeclaredMethods()) {
            if (m.isAnnotationPresent(Says.class)) {
                found.add(m);
            }
        }
        found.sort(Comparator.comparing(Method::getName));
        return found;
    }

    /** Ends the program with exit code 1 if a test failed, if one asked nothing, or if there was none. */
    static void run(Class<?> tests) throws IllegalAccessException {
        int failed = 0;
        List<Method> all = testsOf(tests);
        for (Method m : all) {
            Check c = new Check();
            try {
                m.invoke(null, c);
            } catch (InvocationTargetException e) {
                c.holds(m.getName() + " threw " + e.getCause() + " " + Arrays.toString(e.getCause().getStackTrace()), false);
            }
            if (!c.isRight()) {
                failed++;
                Says says = m.getAnnotation(Says.class);
                System.out.println("FAILED " + m.getName() + ", promise " + says.promise() + ": " + says.words());
            }
        }
        System.out.println(all.size() + " tests, " + failed + " failed");
        if (failed != 0 || all.isEmpty()) {
            System.exit(1);
        }
    }
}

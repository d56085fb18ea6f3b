import java.lang.reflect.InvocationTargetException;
import java.lang.reflect.Method;
import java.lang.reflect.Modifier;
import java.util.ArrayList;
import java.util.Comparator;
import java.util.List;
import java.util.Random;

/** Runs of calls by a fixed seed, each answer of the class held against the model's. */
public final class ModelTest {
    private static final int[] EXTREMES = {Integer.MIN_VALUE, Integer.MAX_VALUE, -2, -1, 13, 41, 100, 1 << 30};
    private static final List<String> DEAR = List.of("begin", "least", "luck", "fits", "look", "hare", "runs");

    private final Check check = new Check();
    private final Random random;
    private final List<Method> methods = new ArrayList<>();
    private final List<Method> models = new ArrayList<>();
    private MoonReapers x;
    private Model model;
    private List<String> told;

    private ModelTest(long seed) throws NoSuchMethodException {
        random = new Random(seed);
        for (Method m : MoonReapers.class.getDeclaredMethods()) {
            if (Modifier.isPublic(m.getModifiers())) {
                methods.add(m);
            }
        }
        methods.sort(Comparator.comparing(Method::getName));
        for (Method m : methods) {
            models.add(Model.class.getMethod(m.getName(), m.getParameterTypes()));
        }
    }

    public static void main(String[] args) throws Exception {
        long seed = args.length > 0 ? Long.parseLong(args[0]) : 20261118L;
        int runs = args.length > 1 ? Integer.parseInt(args[1]) : 260;
        ModelTest test = new ModelTest(seed);
        test.check.due("calls of the face", test.methods.size(), 42);
        for (int k = 0; k < runs; k++) {
            test.run(k);
            test.ponder(k);
            test.sendBySheets();
        }
        test.check.finish();
    }

    private void run(int k) throws Exception {
        x = new MoonReapers();
        model = new Model();
        told = new ArrayList<>();
        tell(k % 10 == 0 ? "" : text(k % 3 == 0));
        for (int n = 0; n < 250; n++) {
            if (random.nextInt(60) == 0) {
                tell(spoilt(text(true)));
            } else {
                call(random.nextInt(methods.size()));
            }
        }
    }

    /** A night in which it is neither sure nor hopeless that it is done, and all that can be thought ahead of it. */
    private void ponder(int k) throws Exception {
        x = new MoonReapers();
        model = new Model();
        told = new ArrayList<>();
        // four reapers on seven strips are dear for the model, so there are few such nights
        int reapers = k % 20 == 0 ? 4 : 1 + random.nextInt(3);
        tell(tightText(reapers));
        for (int r = 0; r < reapers; r++) {
            if (random.nextInt(4) == 0) {
                ask("whet", r, random.nextInt(4));
            }
        }
        if (random.nextInt(4) == 0) {
            ask("go", 1);
        }
        askAllOfReapers(reapers);
        for (int v = 0; v <= 10; v += 1 + random.nextInt(8)) {
            ask("luck", v, 0);
            ask("luck", v, 1);
        }
        ask("drift", random.nextInt(), random.nextInt(11), 0);
        ask("drift", random.nextInt(), random.nextInt(11), 1);
        askWhoBeganWhere(reapers);
    }

    private void askAllOfReapers(int reapers) throws Exception {
        ask("begin", 0);
        ask("least", 0);
        ask("done", 0);
        ask("done", 1);
        ask("left");
        for (int r = 0; r < reapers; r++) {
            ask("begin", 10 + r);
            ask("least", 10 + r);
            ask("best", r, 0);
            ask("best", r, 1);
            ask("oil", r);
        }
    }

    /** Wages as they come by one beginning, so that at least this one fits. */
    private void askWhoBeganWhere(int reapers) throws Exception {
        for (int r = 0; r < reapers; r++) {
            ask("send", r, random.nextInt(x.rule(3)));
        }
        for (int r = 0; r < reapers; r++) {
            if (random.nextBoolean()) {
                ask("pay", r, x.ahead(r, 12, 4));
            }
        }
        ask("send", 0, 0);
        askFits(reapers);
        ask("keep", 1);
        ask("owe", random.nextInt(x.count(4) + 1));
        ask("pay", random.nextInt(reapers), random.nextInt(20));
        askFits(reapers);
        ask("back", 1);
        askFits(reapers);
    }

    private void askFits(int reapers) throws Exception {
        ask("fits", 0);
        for (int r = 0; r < reapers; r++) {
            ask("fits", 10 + r);
        }
    }

    /** On the night that was pondered: sheets with mostly good pairs, read from anywhere in them. */
    private void sendBySheets() throws Exception {
        for (int n = 0; n < 12; n++) {
            int k = random.nextInt(2);
            int lane = random.nextInt(3);
            int cells = random.nextInt(9);
            ask("sheet", k, lane, random.nextInt(9) == 0 ? -1 - cells : cells);
            int most = random.nextInt(3) == 0 ? 5 : 2;
            for (int i = 0; i < cells; i++) {
                ask("lay", k, i, random.nextInt(most) + (random.nextInt(12) == 0 ? 256 : 0));
            }
            int as = random.nextInt(4) == 0 ? random.nextInt(3) : lane;
            ask("read", random.nextInt(8) == 0 ? 2 : k, as, random.nextInt(4) - random.nextInt(2), random.nextInt(5));
            ask("torn");
            for (int r = 0; r < 4; r++) {
                ask("reaper", r, 3);
            }
        }
    }

    private String tightText(int reapers) {
        int hours = reapers == 1 && random.nextInt(3) == 0 ? 12 : 2 + random.nextInt(reapers == 4 ? 5 : 8);
        int strips = 1 + random.nextInt(reapers == 4 ? 4 : 6);
        StringBuilder out = new StringBuilder("night " + hours + ";");
        int paces = 0;
        for (int r = 0; r < reapers; r++) {
            int pace = 1 + random.nextInt(9);
            paces += pace;
            out.append("reaper " + pace + " " + random.nextInt(4) + " " + random.nextInt(strips) + ";");
        }
        int most = Math.max(1, paces * hours * (40 + random.nextInt(60)) / 100 / strips);
        for (int i = 0; i < strips; i++) {
            out.append("strip " + Math.min(40, random.nextInt(2 * most)) + " " + random.nextInt(4) + ";");
        }
        for (int t = 0; t < hours; t++) {
            if (random.nextInt(3) == 0 && out.length() < 150) {
                out.append("cloud " + t + ";");
            }
        }
        for (int i = 0; i < strips; i++) {
            if (random.nextInt(5) == 0 && out.length() < 150) {
                out.append("thistle " + i + ";");
            }
        }
        return out.toString();
    }

    private void tell(String text) throws Exception {
        ask("end", 0);
        for (int k = 0; k < text.length(); k++) {
            ask("feed", (int) text.charAt(k));
        }
        ask("text");
        ask("fault");
        ask("rule", 6);
    }

    private void ask(String name, Object... args) throws Exception {
        for (int m = 0; m < methods.size(); m++) {
            if (methods.get(m).getName().equals(name)) {
                ask(m, args);
            }
        }
    }

    private void call(int m) throws Exception {
        Method method = methods.get(m);
        if (DEAR.contains(method.getName()) && random.nextInt(4) != 0) {
            return;
        }
        // the tape is fed whole texts; a byte now and then is enough beside
        if (method.getName().equals("text") && random.nextInt(40) != 0) {
            return;
        }
        Class<?>[] types = method.getParameterTypes();
        Object[] args = new Object[types.length];
        boolean wild = random.nextInt(8) == 0;
        for (int a = 0; a < args.length; a++) {
            args[a] = types[a] == boolean.class ? (Object) random.nextBoolean() : (Object) number(method.getName(), a, wild);
        }
        ask(m, args);
    }

    /** Mostly a number that the call takes. */
    private int number(String name, int a, boolean wild) {
        if (wild && random.nextInt(2) == 0) {
            return random.nextInt(3) == 0 ? EXTREMES[random.nextInt(EXTREMES.length)] : random.nextInt(30) - 5;
        }
        switch (name) {
            case "begin", "least", "fits":
                return random.nextInt(2) == 0 ? 0 : 10 + random.nextInt(4);
            case "feed":
                return random.nextInt(128);
            case "end":
                return random.nextInt(4);
            case "go":
                return random.nextInt(3);
            case "grow":
                return a == 0 ? random.nextInt(7) : random.nextInt(random.nextBoolean() ? 5 : 41);
            case "pay":
                return a == 0 ? random.nextInt(4) : wage();
            case "drift":
                return a == 0 ? random.nextInt() : random.nextInt(a == 1 ? 11 : 2);
            case "luck":
                return random.nextInt(a == 0 ? 11 : 2);
            case "best", "look":
                return random.nextInt(a == 0 ? 7 : 2);
            case "sheet":
                return a == 2 ? random.nextInt(41) : random.nextInt(a == 0 ? 4 : 3);
            case "lay":
                return a == 2 && random.nextInt(4) == 0 ? random.nextInt() : random.nextInt(4);
            case "read":
                return random.nextInt(4 - a % 2);
            case "send", "see":
                return random.nextInt(5);
            case "lend":
                return random.nextInt(4);
            default:
                return random.nextInt(random.nextBoolean() ? 4 : 9);
        }
    }

    /** Often one that somebody will have. */
    private int wage() {
        int r = random.nextInt(4);
        int due = random.nextInt(3) == 0 ? random.nextInt(100) : x.ahead(r, 12, 4);
        return Math.max(0, due);
    }

    private void ask(int m, Object[] args) throws Exception {
        Method method = methods.get(m);
        String call = method.getName() + List.of(args);
        told.add(call);
        long got;
        try {
            got = ((Number) method.invoke(x, args)).longValue();
        } catch (InvocationTargetException e) {
            System.out.println(call + " threw " + e.getCause());
            check.holds(call + " throws nothing, behind " + told, false);
            return;
        }
        long want = ((Number) models.get(m).invoke(model, args)).longValue();
        check.due(got == want ? call : call + " behind " + told, got, want);
    }

    /** A text that is mostly taken; a small one leaves the dear calls cheap for the model. */
    private String text(boolean small) {
        StringBuilder out = new StringBuilder();
        int hours = 1 + random.nextInt(small ? 6 : 12);
        int strips = 1 + random.nextInt(small ? 4 : 7);
        int reapers = random.nextInt(small ? 4 : 5);
        boolean much = random.nextBoolean();
        if (hours != 8 || random.nextBoolean()) {
            out.append("night ").append(hours).append(';');
        }
        for (int i = 0; i < strips; i++) {
            out.append("strip ").append(random.nextInt(much ? 25 : 12)).append(' ').append(random.nextInt(4)).append(';');
        }
        for (int r = 0; r < reapers; r++) {
            out.append("reaper ").append(1 + random.nextInt(9)).append(' ').append(random.nextInt(5)).append(' ');
            out.append(random.nextInt(strips)).append(';');
        }
        for (int t = 0; t < hours; t++) {
            if (random.nextInt(3) == 0 && out.length() < 145) {
                out.append("cloud ").append(t).append(random.nextInt(9) == 0 ? " ; " : ";");
            }
        }
        for (int i = 0; i < strips; i++) {
            if (random.nextInt(3) == 0 && out.length() < 145) {
                out.append("thistle ").append(i).append(';');
            }
        }
        return out.toString();
    }

    /** One place of the text is changed, often to something that is near to right. */
    private String spoilt(String text) {
        if (text.isEmpty() || random.nextInt(3) == 0) {
            return text;
        }
        int place = random.nextInt(text.length());
        String[] parts = {" ", "", ";", "0", "1", "9", "12", "13", "41", "100", "a", "z", "night 3;", "strip 1 1;",
            "reaper 1 1 0;", "cloud 0;", "thistle 0;", "#", "A", "\t", "\0", "thistle 6;", "cloud 11;"};
        String part = parts[random.nextInt(parts.length)];
        int rest = Math.min(text.length(), place + random.nextInt(3));
        if (random.nextInt(6) == 0) {
            return text.substring(0, place);
        }
        if (random.nextInt(3) == 0) {
            int line = text.lastIndexOf(';', place) + 1;
            return text.substring(0, line) + part + text.substring(line);
        }
        return text.substring(0, place) + part + text.substring(rest);
    }
}

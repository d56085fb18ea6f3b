import java.lang.reflect.Constructor;
import java.lang.reflect.Field;
import java.lang.reflect.Method;
import java.lang.reflect.Modifier;
import java.util.ArrayList;
import java.util.Arrays;
import java.util.Collections;
import java.util.List;

/** The public face of the document, and rules 1, 2, 5 and 11 of LANGUAGE.md as far as the compiled class shows them. */
public final class FaceTest {
    private static final String[] FACE = {"int feed(int)", "int end(int)", "int text()", "int fault()", "int rule(int)",
        "int strip(int,int)", "int reaper(int,int)", "int harvest(int)", "int send(int,int)", "int lend(int,int,int)",
        "int whet(int,int)", "int fill(int,int)", "int cloud(int,boolean)", "int thistle(int,boolean)",
        "int own(int,int)", "int grow(int,int)", "int go(int)", "int ahead(int,int,int)", "int stands(int,int)",
        "int done(int)", "int left()", "int begin(int)", "int best(int,int)", "int oil(int)", "int least(int)",
        "long luck(int,int)", "int see(int,int,boolean)", "int forget(int)", "int hare(int)", "int runs()",
        "int look(int,int)", "int pay(int,int)", "int owe(int)", "int fits(int)", "int drift(int,int,int)",
        "int keep(int)", "int back(int)", "int sheet(int,int,int)", "int lay(int,int,int)", "int read(int,int,int,int)",
        "int torn()", "int count(int)"};

    private static final Check C = new Check();

    public static void main(String[] args) {
        Class<?> face = MoonReapers.class;
        C.holds("public", Modifier.isPublic(face.getModifiers()));
        C.holds("final", Modifier.isFinal(face.getModifiers()));
        C.holds("no package", face.getPackageName().isEmpty());
        C.due("BAD", MoonReapers.BAD, -1);
        C.due("STATE", MoonReapers.STATE, -2);
        C.due("FULL", MoonReapers.FULL, -3);
        C.due("NONE", MoonReapers.NONE, -4);
        methods(face);
        fieldsAndConstructors(face);
        inside(face);
        C.finish();
    }

    private static void methods(Class<?> face) {
        List<String> open = new ArrayList<>();
        for (Method m : face.getDeclaredMethods()) {
            if (Modifier.isPrivate(m.getModifiers())) {
                C.holds(m.getName() + " is private and has a name of its own", !isOfFace(m.getName()));
            } else {
                C.holds(m.getName() + " is public and not static", m.getModifiers() == Modifier.PUBLIC);
                open.add(signature(m));
            }
        }
        List<String> due = new ArrayList<>(Arrays.asList(FACE));
        Collections.sort(due);
        Collections.sort(open);
        C.holds("the face is the document's: " + open, due.equals(open));
    }

    private static void fieldsAndConstructors(Class<?> face) {
        int open = 0;
        for (Field f : face.getDeclaredFields()) {
            if (!Modifier.isPrivate(f.getModifiers())) {
                open++;
                C.holds(f.getName() + " is a public constant",
                        f.getModifiers() == (Modifier.PUBLIC | Modifier.STATIC | Modifier.FINAL) && f.getType() == int.class);
            }
        }
        C.due("public constants", open, 4);
        Constructor<?>[] made = face.getDeclaredConstructors();
        C.due("constructors", made.length, 1);
        C.holds("public and without parameters",
                made[0].getModifiers() == Modifier.PUBLIC && made[0].getParameterCount() == 0);
    }

    private static void inside(Class<?> face) {
        C.holds("at most twelve classes", face.getDeclaredClasses().length < 12);
        smallEnough(face);
        for (Class<?> c : face.getDeclaredClasses()) {
            int m = c.getModifiers();
            C.holds(c.getName() + " is static", Modifier.isStatic(m));
            C.holds(c.getName() + " is not open", !Modifier.isPublic(m) && !Modifier.isProtected(m));
            smallEnough(c);
            for (Method method : c.getDeclaredMethods()) {
                C.holds(c.getName() + "." + method.getName() + " has a name of its own", !isOfFace(method.getName()));
            }
        }
    }

    private static void smallEnough(Class<?> c) {
        int fields = 0;
        for (Field f : c.getDeclaredFields()) {
            if (Modifier.isStatic(f.getModifiers())) {
                C.holds(f.getName() + " is final", Modifier.isFinal(f.getModifiers()));
            } else {
                fields++;
            }
        }
        C.holds(c.getName() + " has at most twenty fields", fields <= 20);
        for (Method m : c.getDeclaredMethods()) {
            C.holds(m.getName() + " has at most seven parameters", m.getParameterCount() <= 7);
        }
    }

    private static boolean isOfFace(String name) {
        for (String s : FACE) {
            if (s.contains(" " + name + "(")) {
                return true;
            }
        }
        return false;
    }

    private static String signature(Method m) {
        List<String> types = new ArrayList<>();
        for (Class<?> c : m.getParameterTypes()) {
            types.add(c.getName());
        }
        return m.getReturnType().getName() + " " + m.getName() + "(" + String.join(",", types) + ")";
    }
}

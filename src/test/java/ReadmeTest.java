import java.io.IOException;
import java.net.URL;
import java.net.URLClassLoader;
import java.nio.file.Files;
import java.nio.file.Path;
import java.util.regex.Matcher;
import java.util.regex.Pattern;
import javax.tools.ToolProvider;

/** What README.md shows of the use compiles, and each call of it answers what stands behind it. */
public final class ReadmeTest {
    private static final Pattern BLOCK = Pattern.compile("(?s)```java\n(.*?)```");
    private static final Pattern SHOWN = Pattern.compile("(?m)^(x\\.\\w+\\([^\n]*\\));\\s+// (-?\\d+)\\b.*$");
    private static final Check C = new Check();

    public static void main(String[] args) throws Exception {
        String readme = Files.readString(Path.of("README.md"));
        everyCallIsNamed(readme);
        String shown = shown(readme);
        Path folder = Files.createTempDirectory("readme");
        try {
            run(folder, shown);
        } finally {
            remove(folder);
        }
        C.finish();
    }

    /** Called by what is made of README.md's blocks. */
    public static void due(String call, long got, long want) {
        C.due("README.md: " + call, got, want);
    }

    private static void everyCallIsNamed(String readme) {
        for (java.lang.reflect.Method m : MoonReapers.class.getDeclaredMethods()) {
            if (java.lang.reflect.Modifier.isPublic(m.getModifiers())) {
                C.holds(m.getName() + " is named in README.md", readme.contains("`" + m.getName() + "`"));
            }
        }
    }

    private static String shown(String readme) {
        StringBuilder all = new StringBuilder();
        Matcher block = BLOCK.matcher(readme);
        while (block.find()) {
            all.append(block.group(1));
        }
        Matcher call = SHOWN.matcher(all);
        C.holds("answers are shown in README.md", call.results().count() > 20);
        return SHOWN.matcher(all).replaceAll("ReadmeTest.due(\"$1\", $1, $2L);");
    }

    private static void run(Path folder, String body) throws Exception {
        Path file = folder.resolve("Shown.java");
        Files.writeString(file, "public final class Shown { public static void run() {\n" + body + "} }\n");
        int code = ToolProvider.getSystemJavaCompiler().run(null, null, null,
                "-cp", System.getProperty("java.class.path"), "-d", folder.toString(), file.toString());
        C.due("README.md compiles", code, 0);
        if (code == 0) {
            try (URLClassLoader loader = new URLClassLoader(new URL[] {folder.toUri().toURL()})) {
                loader.loadClass("Shown").getMethod("run").invoke(null);
            }
        }
    }

    private static void remove(Path folder) throws IOException {
        for (String name : new String[] {"Shown.java", "Shown.class"}) {
            Files.deleteIfExists(folder.resolve(name));
        }
        Files.deleteIfExists(folder);
    }
}

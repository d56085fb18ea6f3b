import java.io.IOException;
import java.nio.file.Files;
import java.nio.file.Path;
import java.util.Set;
import java.util.TreeSet;
import java.util.regex.Matcher;
import java.util.regex.Pattern;

/** Rules of LANGUAGE.md that can be read off the source's words. */
public final class LanguageTest {
    private static final Check C = new Check();
    /** Of the library, what the class uses now; LANGUAGE.md allows more. */
    private static final Set<String> LIBRARY = Set.of("Math.abs", "Math.min", "Math.max", "Arrays.fill",
            "System.arraycopy", "Integer.bitCount", "java.util", "util.Arrays");

    public static void main(String[] args) throws IOException {
        String source = Files.readString(Path.of("src/main/java/MoonReapers.java"));
        String code = source.replaceAll("(?s)/\\*.*?\\*/", "").replaceAll("//[^\n]*", "");
        C.holds("no package line", !code.contains("package "));
        for (char c : source.toCharArray()) {
            if (c > 126 || c < 32 && c != '\n') {
                C.holds("plain signs only, not " + (int) c, false);
            }
        }
        for (String word : new String[] {"throw", "throws", "try", "catch", "finally", "synchronized", "assert",
            "volatile", "transient", "native", "strictfp", "protected", "var", "yield", "double", "float", "Object",
            "Iterator", "Thread", "Random", "hashCode", "toString"}) {
            C.holds("no " + word, !Pattern.compile("\\b" + word + "\\b").matcher(code).find());
        }
        C.holds("no lambda, no arrow", !code.contains("->"));
        C.holds("no method reference", !code.contains("::"));
        C.holds("no static block", !Pattern.compile("static\\s*\\{").matcher(code).find());
        C.holds("no joining by +", !Pattern.compile("\"\\s*\\+|\\+\\s*\"").matcher(code).find());
        library(code);
        methodsStayShort(source);
        C.finish();
    }

    /** Names that begin great and are followed by a point are of the library, or fields of none. */
    private static void library(String code) {
        Set<String> used = new TreeSet<>();
        Matcher m = Pattern.compile("\\b([A-Z][a-z]\\w*\\.\\w+|java\\.\\w+|util\\.\\w+)").matcher(code);
        while (m.find()) {
            used.add(m.group(1));
        }
        for (String name : used) {
            C.holds("of the library: " + name, LIBRARY.contains(name));
        }
    }

    /** By the indentation: a member's head stands at 4 or 8 blanks and its closing brace below it. */
    private static void methodsStayShort(String source) {
        String[] lines = source.split("\n");
        for (int k = 0; k < lines.length; k++) {
            Matcher m = Pattern.compile("^( {4}| {8})(?!.*\\bclass\\b)\\S.*\\) \\{$").matcher(lines[k]);
            if (m.find()) {
                int end = k;
                while (end < lines.length && !lines[end].equals(m.group(1) + "}")) {
                    end++;
                }
                C.holds(lines[k].trim() + " has " + (end - k + 1) + " lines", end - k < 60);
            }
        }
    }
}

import java.io.IOException;
import java.lang.reflect.Method;
import java.nio.file.DirectoryStream;
import java.nio.file.Files;
import java.nio.file.Path;
import java.util.ArrayList;
import java.util.List;
import java.util.regex.Matcher;
import java.util.regex.Pattern;

/** Holds the boundary tests against the document: each quotes it rightly, and each bound in it is quoted by one. */
public final class BoundsListTest {
    private static final int PROMISES = 43;
    /** What names a bound: a refusal, a range, a most. */
    private static final Pattern BOUND = Pattern.compile(
            "\\bBAD\\b|\\bSTATE\\b|\\bFULL\\b|\\bNONE\\b|\\b\\d+ to \\w+|\\d+ at most");
    private static final Check C = new Check();

    public static void main(String[] args) throws IOException {
        String doc = Files.readString(Path.of("../shared/DOC.md"));
        List<Says> all = new ArrayList<>();
        for (Class<?> tests : Bounds.ALL) {
            for (Method m : Bounds.testsOf(tests)) {
                all.add(m.getAnnotation(Says.class));
            }
        }
        for (int promise = 0; promise <= PROMISES; promise++) {
            String section = sectionOf(doc, promise);
            C.holds("promise " + promise + " is in the document", !section.isEmpty());
            List<String> quotes = quotesOf(all, promise);
            for (String words : quotes) {
                C.holds("promise " + promise + " says: " + words, section.contains(plain(words)));
            }
            everyBoundIsQuoted(promise, section, quotes);
        }
        everyClassIsListed();
        C.due("no promise behind the last", sectionOf(doc, PROMISES + 1).length(), 0);
        C.finish();
    }

    private static void everyClassIsListed() throws IOException {
        try (DirectoryStream<Path> files = Files.newDirectoryStream(Path.of("src/test/java"), "*BoundsTest.java")) {
            for (Path file : files) {
                String name = file.getFileName().toString().replace(".java", "");
                C.holds(name + " is in Bounds.ALL", Bounds.ALL.stream().anyMatch(c -> c.getName().equals(name)));
            }
        }
    }

    private static List<String> quotesOf(List<Says> all, int promise) {
        List<String> quotes = new ArrayList<>();
        for (Says says : all) {
            if (says.promise() == promise) {
                quotes.add(plain(says.words()));
            }
        }
        C.holds("promise " + promise + " has a boundary test", !quotes.isEmpty());
        return quotes;
    }

    /** The first paragraph of the terms tells what the refusals mean; each promise says where it has them. */
    private static void everyBoundIsQuoted(int promise, String section, List<String> quotes) {
        Matcher m = BOUND.matcher(promise == 0 ? section.substring(section.indexOf("========")) : section);
        while (m.find()) {
            boolean quoted = false;
            for (String words : quotes) {
                quoted |= words.contains(m.group());
            }
            C.holds("promise " + promise + ", " + m.group() + ", has a boundary test", quoted);
        }
    }

    /** What a promise says, without its heading and the head of its call; promise 0: the terms. */
    private static String sectionOf(String doc, int promise) {
        String from = promise == 0 ? "## Terms" : "## Promise " + promise + ":";
        int begin = doc.indexOf(from);
        if (begin < 0) {
            return "";
        }
        int end = doc.indexOf("\n## ", begin + 1);
        return plain(doc.substring(doc.indexOf('\n', begin), end < 0 ? doc.length() : end));
    }

    private static String plain(String text) {
        return text.replaceAll("\\s+", " ");
    }
}

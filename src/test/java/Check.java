/** What the tests share: objects made from a text, and answers held against those that are due. */
final class Check {
    private int wrong = 0;
    private int asked = 0;

    void due(String call, long got, long want) {
        asked++;
        if (got != want) {
            wrong++;
            System.out.println(call + " answered " + got + ", due is " + want);
        }
    }

    void holds(String what, boolean is) {
        due(what, is ? 1 : 0, 1);
    }

    /** Something was asked, and no answer was wrong. */
    boolean isRight() {
        return wrong == 0 && asked > 0;
    }

    /** Ends the program with exit code 1 if an answer was wrong, or if none was asked. */
    void finish() {
        System.out.println(asked + " answers, " + wrong + " wrong");
        if (!isRight()) {
            System.exit(1);
        }
    }

    static void feed(MoonReapers x, String text) {
        for (int k = 0; k < text.length(); k++) {
            x.feed(text.charAt(k));
        }
    }

    /** The answer of text() to a text put on an empty tape. */
    static int read(MoonReapers x, String text) {
        x.end(0);
        feed(x, text);
        return x.text();
    }

    /** A new object to which the text has been told; a text with a fault is the test's own mistake. */
    static MoonReapers told(String text) {
        MoonReapers x = new MoonReapers();
        if (read(x, text) < 0) {
            throw new IllegalArgumentException("a fault in the test's text: " + text);
        }
        return x;
    }
}

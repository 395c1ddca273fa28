import java.io.IOException;
import java.nio.file.Files;
import java.nio.file.Path;

/** What the tests by sentence share: each check stands under the words of the document that it holds the class to. */
final class Checks {
    static final int NONE = -1, UNKNOWN = -101, OUTSIDE = -102, STATE = -103, FULL = -104;
    static final int LEAST = Integer.MIN_VALUE, MOST = Integer.MAX_VALUE;

    /** Objects are used for so many calls; what later calls answer is free. */
    static final int MOST_CALLS = 512;

    private static final String DOCUMENT = readDocument();
    private static String words = "";
    private static int sentences = 0;
    private static int checks = 0;
    private static int checksBefore = 0;
    private static int wrong = 0;

    private Checks() {
    }

    private static String readDocument() {
        try {
            return plain(Files.readString(Path.of("../shared/DOC.md")));
        } catch (IOException e) {
            return "";
        }
    }

    private static String plain(String text) {
        return text.replace("```text", " ").replace("```", " ").replaceAll("\\s+", " ");
    }

    /** The checks behind this are of these words: they must stand in the document, if it can be read. */
    static void says(String quoted) {
        endSentence();
        words = quoted;
        sentences++;
        if (!DOCUMENT.isEmpty() && !DOCUMENT.contains(plain(quoted))) {
            fail("these words do not stand in the document");
        }
    }

    private static void endSentence() {
        if (sentences > 0 && checks == checksBefore) {
            fail("nothing was checked");
        }
        checksBefore = checks;
    }

    static void fail(String what) {
        wrong++;
        if (wrong <= 40) {
            System.out.println("'" + words + "': " + what);
        }
    }

    static void due(String call, long got, long want) {
        checks++;
        if (got != want) {
            fail(call + " answered " + got + ", due is " + want);
        }
    }

    static void end() {
        endSentence();
        System.out.println(sentences + " sentences, " + checks + " checks, " + wrong + " wrong");
        if (wrong != 0) {
            System.exit(1);
        }
    }

    /** The first eight letters of a text as letters() takes them. */
    static long word(String text) {
        long w = 0;
        for (int i = Math.min(8, text.length()) - 1; i >= 0; i--) {
            w = w << 8 | text.charAt(i);
        }
        return w;
    }

    static RoomsByThree put(RoomsByThree x, String text) {
        for (int i = 0; i < text.length(); i += 8) {
            x.letters(word(text.substring(i)));
        }
        return x;
    }

    static RoomsByThree page(String text) {
        return put(new RoomsByThree(), text);
    }

    /** A new object with this house, and a rule of each of these kinds. */
    static RoomsByThree with(String house, int... kinds) {
        RoomsByThree x = page(house);
        if (x.house() < 1) {
            fail("'" + house + "' is no house: " + x.fault(0));
        }
        for (int kind : kinds) {
            x.rule(kind, 0);
        }
        return x;
    }

    static int told(RoomsByThree x, String text) {
        return put(x, text).tell();
    }

    static String times(int count, String part, String between) {
        StringBuilder s = new StringBuilder();
        for (int i = 0; i < count; i++) {
            s.append(i > 0 ? between : "").append(part);
        }
        return s.toString();
    }
}

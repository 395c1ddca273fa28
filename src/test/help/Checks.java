import java.io.IOException;
import java.nio.file.Files;
import java.nio.file.Path;

/** What the tests by sentence share: each check stands under the words of the document that it holds the class to. */
final class Checks {
    static final int NONE = -1, UNKNOWN = -101, OUTSIDE = -102, STATE = -103, FULL = -104;
    static final int LEAST = Integer.MIN_VALUE, MOST = Integer.MAX_VALUE;

    /** Objects are used for so many calls; what later calls answer is free. */
    static final int MOST_CALLS = 512;

    /** Houses of which nothing may be left in the next one: the most of all, and one whose BEST is found. */
    private static final String CROWDED = "6a1g0/1g41,5b9g3/5g9,4c8g1/9g2,3d7g0,2a6g5,1b5g6,4d4g7,6c3g8;"
            + "6f1t44,1f2t40,3f0t30;0x9,1xh8,2a7,3b6,4c5,5d4,6xh3,7x2";
    private static final String BUSY = "6d1g0/1g41,5c9g3/5g9,4b8g1/9g2,3a7g0,2d6g5,1c5g6;"
            + "1f0t44,2f0t44,4f9t40;0x9,1xh8,2d7,3c6,4b5,5a4,6xh3,7x2";

    private static final String DOCUMENT = readDocument();
    /** Whether with() gives objects that had other houses. */
    private static boolean worn = false;
    private static String words = "";
    private static int sentences = 0;
    private static int checks = 0;
    private static int checksBefore = 0;
    private static int wrong = 0;

    private Checks() {
    }

    private static String readDocument() {
        try {
            return plain(Files.readString(Path.of("../shared/DOC.md")));
        } catch (IOException e) {
            return "";
        }
    }

    private static String plain(String text) {
        return text.replace("```text", " ").replace("```", " ").replaceAll("\\s+", " ");
    }

    /** The checks behind this are of these words: they must stand in the document, if it can be read. */
    static void says(String quoted) {
        endSentence();
        words = quoted;
        sentences++;
        if (!DOCUMENT.isEmpty() && !DOCUMENT.contains(plain(quoted))) {
            fail("these words do not stand in the document");
        }
    }

    private static void endSentence() {
        if (sentences > 0 && checks == checksBefore) {
            fail("nothing was checked");
        }
        checksBefore = checks;
    }

    static void fail(String what) {
        wrong++;
        if (wrong <= 40) {
            System.out.println("'" + words + "': " + what);
        }
    }

    static void due(String call, long got, long want) {
        checks++;
        if (got != want) {
            fail(call + " answered " + got + ", due is " + want);
        }
    }

    static void end() {
        endSentence();
        System.out.println(sentences + " sentences, " + checks + " checks, " + wrong + " wrong");
        if (wrong != 0) {
            System.exit(1);
        }
    }

    /** The first eight letters of a text as letters() takes them. */
    static long word(String text) {
        long w = 0;
        for (int i = Math.min(8, text.length()) - 1; i >= 0; i--) {
            w = w << 8 | text.charAt(i);
        }
        return w;
    }

    static RoomsByThree put(RoomsByThree x, String text) {
        for (int i = 0; i < text.length(); i += 8) {
            x.letters(word(text.substring(i)));
        }
        return x;
    }

    static RoomsByThree page(String text) {
        return put(new RoomsByThree(), text);
    }

    /** From now on with() reads its house behind two others: what is told of it is the same. */
    static void wear() {
        worn = true;
    }

    /** An object with this house, and a rule of each of these kinds. */
    static RoomsByThree with(String house, int... kinds) {
        RoomsByThree x = new RoomsByThree();
        for (int kind : kinds) {
            x.rule(kind, 0);
        }
        if (worn) {
            live(x, CROWDED);
            live(x, BUSY);
        }
        put(x, house);
        if (x.house() < 1) {
            fail("'" + house + "' is no house: " + x.fault(0));
        }
        return x;
    }

    private static void live(RoomsByThree x, String house) {
        put(x, house);
        x.house();
        for (int r = 0; r < 8; r++) {
            x.late(r, 5 * r);
        }
        x.image();
        x.late(1, NONE);
        for (int rule = 0; rule < x.count(3); rule++) {
            x.mean(rule, 0, 0);
            x.mean(rule, 1, 0);
        }
    }

    static int told(RoomsByThree x, String text) {
        return put(x, text).tell();
    }

    static String times(int count, String part, String between) {
        StringBuilder s = new StringBuilder();
        for (int i = 0; i < count; i++) {
            s.append(i > 0 ? between : "").append(part);
        }
        return s.toString();
    }
}

import java.io.File;
import java.io.IOException;
import java.net.URL;
import java.net.URLClassLoader;
import java.nio.file.Files;
import java.nio.file.Path;
import java.util.Comparator;
import java.util.regex.Matcher;
import java.util.regex.Pattern;
import java.util.stream.Stream;
import javax.tools.ToolProvider;

/**
 * The lines of Java in README.md, all as one run of calls: they are compiled as they stand, and each call with a
 * number behind it must answer that number. It is run from the project's folder.
 */
public final class ReadmeTest {
    static final Pattern BLOCK = Pattern.compile("```java\\n(.*?)```", Pattern.DOTALL);
    static final Pattern ASKED = Pattern.compile("(?:int (\\w+) = )?(x\\.\\w+\\(.*\\));\\s*// (-?\\d+)(?:: .*)?");
    static int wrong = 0;
    static int checks = 0;

    public static void main(String[] args) throws Exception {
        StringBuilder helpers = new StringBuilder();
        StringBuilder run = new StringBuilder();
        Matcher block = BLOCK.matcher(Files.readString(Path.of("README.md")));
        while (block.find()) {
            String lines = block.group(1);
            if (lines.startsWith("static ")) {
                helpers.append(lines);
            } else {
                lines.lines().forEach(line -> run.append(checked(line)).append('\n'));
            }
        }
        Path folder = Files.createTempDirectory("readme");
        try {
            compileAndRun(folder, "public final class ReadmeRun {\n" + helpers
                    + "public static void run() {\n" + run + "}\n}\n");
        } finally {
            remove(folder);
        }
        System.out.println(checks + " answers of README.md, " + wrong + " wrong");
        if (wrong != 0 || checks == 0) {
            System.exit(1);
        }
    }

    /** A line of the run, with a check if a number stands behind it; every call of x but put() has one. */
    static String checked(String line) {
        Matcher asked = ASKED.matcher(line.trim());
        if (asked.matches()) {
            String call = asked.group(2);
            String got = asked.group(1) == null ? call : asked.group(1);
            String due = "ReadmeTest.due(\"" + call + "\", " + got + ", " + asked.group(3) + "L);";
            return (asked.group(1) == null ? "" : "int " + got + " = " + call + "; ") + due;
        }
        if (line.contains("x.")) {
            wrong++;
            System.out.println("no answer is written behind '" + line + "'");
        }
        return line;
    }

    /** Called by the lines that were compiled. */
    public static void due(String call, long got, long want) {
        checks++;
        if (got != want) {
            wrong++;
            System.out.println(call + " answered " + got + ", README.md says " + want);
        }
    }

    static void compileAndRun(Path folder, String source) throws Exception {
        Path file = folder.resolve("ReadmeRun.java");
        Files.writeString(file, source);
        String path = System.getProperty("java.class.path");
        int failed = ToolProvider.getSystemJavaCompiler().run(null, null, null, "-cp", path, "-d", folder.toString(),
                file.toString());
        if (failed != 0) {
            wrong++;
            return;
        }
        try (URLClassLoader loader = new URLClassLoader(new URL[] {folder.toUri().toURL()})) {
            loader.loadClass("ReadmeRun").getMethod("run").invoke(null);
        }
    }

    static void remove(Path folder) throws IOException {
        try (Stream<Path> all = Files.walk(folder)) {
            all.sorted(Comparator.reverseOrder()).map(Path::toFile).forEach(File::delete);
        }
    }
}

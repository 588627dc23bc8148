import java.io.IOException;
import java.lang.reflect.Method;
import java.lang.reflect.Modifier;
import java.net.URL;
import java.net.URLClassLoader;
import java.nio.charset.StandardCharsets;
import java.nio.file.Files;
import java.nio.file.Path;
import java.util.regex.Matcher;
import java.util.regex.Pattern;
import java.util.stream.Stream;

/**
 * The examples of README.md: its blocks of Java, one behind the other, are one run. A statement that
 * ends with a comment "// 12" or "// 12: words" must answer that number.
 */
public final class ReadmeTest {
    private static final String NAME = "ReadmeExamples";
    private static final Pattern ANSWERED =
            Pattern.compile("(?s)^\\s*(?:int (\\w+) = )?(.*\\));\\s*// (-?\\d+)(?:: [^\n]*)?$");

    private final StringBuilder helpers = new StringBuilder();
    private final StringBuilder body = new StringBuilder();
    private final StringBuilder answered = new StringBuilder();
    private int examples;
    private int unclear;

    private void takeBlock(String block) {
        if (block.startsWith("static")) {
            helpers.append(block);
            return;
        }
        StringBuilder statement = new StringBuilder();
        for (String line : block.split("\n")) {
            statement.append(line).append('\n');
            if (line.contains("//") || line.matches(".*[;{}]")) {
                takeStatement(statement.toString().stripTrailing());
                statement.setLength(0);
            }
        }
        body.append(statement);
    }

    private void takeStatement(String statement) {
        Matcher m = ANSWERED.matcher(statement);
        if (!m.find()) {
            if (statement.contains("//")) {
                System.out.println("README.md: a comment without an answer: " + statement);
                unclear++;
            }
            body.append(statement).append('\n');
            return;
        }
        examples++;
        String call = m.group(2);
        answered.append(call).append('\n');
        String got = call;
        if (m.group(1) != null) {
            body.append("int ").append(m.group(1)).append(" = ").append(call).append(";\n");
            got = m.group(1);
        }
        String said = call.replace("\\", "\\\\").replace("\"", "\\\"").replace("\n", " ");
        body.append("due(\"").append(said).append("\", ").append(got).append(", ")
                .append(m.group(3)).append("L);\n");
    }

    private String source() {
        return "public final class " + NAME + " {\n"
                + "static int wrong;\n"
                + "static void due(String call, long got, long want) {\n"
                + "if (got != want) { wrong++; System.out.println(\"README.md: \" + call"
                + " + \" answers \" + got + \", not \" + want); }\n}\n"
                + helpers
                + "public static int run() {\n" + body + "return wrong;\n}\n}\n";
    }

    /** Each method of the face must be among the examples that tell their answer. */
    private int missing() {
        int missing = 0;
        for (Method m : LatePrices.class.getDeclaredMethods()) {
            boolean used = answered.indexOf("x." + m.getName() + "(") >= 0;
            if (Modifier.isPublic(m.getModifiers()) && !used) {
                System.out.println("README.md has no example of " + m.getName());
                missing++;
            }
        }
        return missing;
    }

    private int wrongAnswers(Path dir) throws Exception {
        Path file = dir.resolve(NAME + ".java");
        Files.writeString(file, source(), StandardCharsets.UTF_8);
        Process javac = new ProcessBuilder("javac", "-encoding", "UTF-8", "-d", dir.toString(), "-cp",
                System.getProperty("java.class.path"), file.toString()).inheritIO().start();
        if (javac.waitFor() != 0) {
            return 1;
        }
        try (URLClassLoader loader = new URLClassLoader(new URL[] {dir.toUri().toURL()})) {
            return (Integer) loader.loadClass(NAME).getMethod("run").invoke(null);
        }
    }

    private static void remove(Path dir) throws IOException {
        try (Stream<Path> files = Files.list(dir)) {
            for (Path file : (Iterable<Path>) files::iterator) {
                Files.delete(file);
            }
        }
        Files.delete(dir);
    }

    public static void main(String[] args) throws Exception {
        Path root = Path.of(args.length > 0 ? args[0] : ".");
        String readme = Files.readString(root.resolve("README.md"), StandardCharsets.UTF_8);
        ReadmeTest test = new ReadmeTest();
        Matcher blocks = Pattern.compile("(?s)```java\n(.*?)```").matcher(readme);
        while (blocks.find()) {
            test.takeBlock(blocks.group(1));
        }
        Path dir = Files.createTempDirectory("readme");
        int wrong;
        try {
            wrong = test.wrongAnswers(dir) + test.missing() + test.unclear;
        } finally {
            remove(dir);
        }
        System.out.println(test.examples + " examples of README.md, " + wrong + " faults");
        if (wrong != 0 || test.examples == 0) {
            System.exit(1);
        }
    }
}

import java.io.IOException;
import java.io.PrintWriter;
import java.lang.reflect.Field;
import java.lang.reflect.Method;
import java.lang.reflect.Modifier;
import java.net.URL;
import java.net.URLClassLoader;
import java.nio.file.Files;
import java.nio.file.Path;
import java.util.ArrayList;
import java.util.List;
import java.util.regex.Matcher;
import java.util.regex.Pattern;
import java.util.spi.ToolProvider;

/** What README.md tells: its example is compiled and run, each answer held against the comment of its line. */
public final class ReadmeTest {
    private static final Path README = Path.of("README.md");
    private static final Pattern BLOCK = Pattern.compile("(?s)```java\n(.*?)```");
    private static final Pattern NEW_OBJECT = Pattern.compile("DoubtfulTrunks \\w+ = new DoubtfulTrunks\\(\\);");
    /** A statement, perhaps with a variable for its answer, and a comment that begins with the answer. */
    private static final Pattern ANSWERED =
            Pattern.compile("(int \\w+ = )?(\\w+\\.\\w+\\(.*\\)); *// (-?\\d+|[A-Z_]+): .*");
    private static final int LEAST_LINES = 30;

    private static final Check check = new Check("Readme");

    public static void main(String[] args) throws Exception {
        String text = Files.readString(README).replace("\r\n", "\n");
        callsAreTold(text);
        constantsAreTold(text);
        example(text);
        check.finish();
    }

    private static void callsAreTold(String text) {
        for (Method method : DoubtfulTrunks.class.getDeclaredMethods()) {
            if (Modifier.isPublic(method.getModifiers())) {
                int arguments = method.getParameterCount();
                String rest = arguments == 0 ? "" : "\\w+" + ", \\w+".repeat(arguments - 1);
                Pattern row = Pattern.compile("(?m)^\\| `" + method.getName() + "\\(" + rest + "\\)` \\|");
                check.holds("a row for " + method.getName(), row.matcher(text).find());
            }
        }
    }

    private static void constantsAreTold(String text) throws IllegalAccessException {
        for (Field field : DoubtfulTrunks.class.getDeclaredFields()) {
            if (Modifier.isPublic(field.getModifiers())) {
                int number = field.getInt(null);
                String told = "`" + field.getName() + "`" + (number < 0 ? " (" + number + ")" : "");
                check.holds(told, text.contains(told));
            }
        }
    }

    private static void example(String text) throws Exception {
        List<String> helpers = new ArrayList<>();
        List<String> examples = new ArrayList<>();
        Matcher block = BLOCK.matcher(text);
        while (block.find()) {
            (block.group(1).startsWith("static ") ? helpers : examples).add(block.group(1));
        }
        check.due("helpers", helpers.size(), 1);
        check.due("examples", examples.size(), 1);
        if (!check.isWrong()) {
            runExample(helpers.get(0), examples.get(0));
        }
    }

    private static void runExample(String helper, String example) throws Exception {
        List<String> lines = new ArrayList<>();
        StringBuilder body = new StringBuilder();
        for (String line : example.split("\n")) {
            Matcher answered = ANSWERED.matcher(line);
            if (answered.matches()) {
                body.append(withAnswer(answered, lines.size()));
                lines.add(line);
            } else {
                check.holds("a new object, a comment, or a line with its answer: " + line,
                        line.isEmpty() || line.startsWith("// ") || NEW_OBJECT.matcher(line).matches());
                body.append(line).append('\n');
            }
        }
        check.holds("the example's lines: " + lines.size(), lines.size() >= LEAST_LINES);
        int[][] answers = answersOf(source(helper, body.toString(), lines.size()));
        for (int line = 0; answers != null && line < lines.size(); line++) {
            check.due("README: " + lines.get(line), answers[line][0], answers[line][1]);
        }
    }

    private static String withAnswer(Matcher answered, int line) {
        String variable = answered.group(1) == null ? "" : answered.group(1);
        return variable + "note(" + line + ", " + answered.group(2) + ", " + answered.group(3) + ");\n";
    }

    private static String source(String helper, String body, int lines) {
        StringBuilder text = new StringBuilder("public final class ReadmeExample {\n");
        for (String name : new String[] {"NO_SUCH", "BAD_VALUE", "BAD_TEXT", "TOO_MANY", "NOT_POSSIBLE", "NONE"}) {
            text.append("static final int ").append(name).append(" = DoubtfulTrunks.").append(name).append(";\n");
        }
        text.append("private static final int[][] answers = new int[").append(lines).append("][];\n");
        text.append("private static int note(int line, int got, int due) {\n");
        text.append("answers[line] = new int[] {got, due};\nreturn got;\n}\n");
        text.append(helper);
        text.append("public static int[][] run() {\n").append(body).append("return answers;\n}\n}\n");
        return text.toString();
    }

    private static int[][] answersOf(String source) throws Exception {
        Path directory = Files.createTempDirectory("readme");
        Path file = directory.resolve("ReadmeExample.java");
        Path compiled = directory.resolve("ReadmeExample.class");
        try {
            Files.writeString(file, source);
            if (!compiles(file, directory)) {
                return null;
            }
            URL[] places = {directory.toUri().toURL()};
            try (URLClassLoader loader = new URLClassLoader(places, ReadmeTest.class.getClassLoader())) {
                return (int[][]) loader.loadClass("ReadmeExample").getMethod("run").invoke(null);
            }
        } finally {
            Files.deleteIfExists(compiled);
            Files.deleteIfExists(file);
            Files.delete(directory);
        }
    }

    private static boolean compiles(Path file, Path directory) throws IOException {
        ToolProvider javac = ToolProvider.findFirst("javac").orElse(null);
        check.holds("there is a javac", javac != null);
        if (javac == null) {
            return false;
        }
        PrintWriter out = new PrintWriter(System.out, true);
        int answer = javac.run(out, out, "--release", "17", "-cp", System.getProperty("java.class.path"),
                "-d", directory.toString(), file.toString());
        check.due("javac of README's example", answer, 0);
        return answer == 0;
    }
}

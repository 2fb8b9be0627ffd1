import java.net.URL;
import java.net.URLClassLoader;
import java.nio.file.Files;
import java.nio.file.Path;
import java.util.ArrayList;
import java.util.List;
import java.util.Map;
import java.util.TreeSet;
import java.util.regex.Matcher;
import java.util.regex.Pattern;
import javax.tools.JavaCompiler;
import javax.tools.ToolProvider;

/**
 * The examples of a text: blocks of Java, each with an object x of its own, in which each call
 * stands in a line of its own, with its answer behind it. They are compiled as they stand, but for
 * the answers, which go into a row.
 */
final class Examples {
    private static final String BEGIN = "WireDigs x = new WireDigs();";
    private static final Pattern CALL = Pattern.compile("(int \\w+ = )?(x\\.(\\w+)\\(.*\\)); *// (-?\\d+|[A-Z_]+)(: .*)?");
    private static final Path DIRECTORY = Path.of("build/examples");

    private final Map<String, Integer> constants;
    private final StringBuilder methods = new StringBuilder();
    private final StringBuilder runs = new StringBuilder();
    private final List<String> calls = new ArrayList<>();
    private final List<Integer> due = new ArrayList<>();
    /** The names of the methods that are called. */
    final TreeSet<String> called = new TreeSet<>();

    Examples(List<String> lines, Map<String, Integer> constants) {
        this.constants = constants;
        boolean inside = false;
        for (int i = 0; i < lines.size(); i++) {
            String line = lines.get(i);
            if (line.equals("```java")) {
                inside = true;
                methods.append("static void from").append(i).append("(int[] a) {\n");
                runs.append("from").append(i).append("(a);\n");
            } else if (inside && line.equals("```")) {
                inside = false;
                methods.append("}\n");
            } else if (inside) {
                addLine(i + 1, line);
            }
        }
    }

    private void addLine(int number, String line) {
        Matcher call = CALL.matcher(line);
        if (call.matches()) {
            String into = call.group(1) == null ? "" : call.group(1);
            methods.append(into).append("a[").append(due.size()).append("] = ").append(call.group(2)).append(";\n");
            calls.add("line " + number + ": " + call.group(2));
            due.add(valueOf(call.group(4)));
            called.add(call.group(3));
        } else {
            methods.append(line).append("\n");
            Check.dueThat("line " + number + " is a call with its answer", line.equals(BEGIN));
        }
    }

    private int valueOf(String answer) {
        return constants.containsKey(answer) ? constants.get(answer) : Integer.parseInt(answer);
    }

    void compare() throws Exception {
        Files.createDirectories(DIRECTORY);
        Path source = DIRECTORY.resolve("AllExamples.java");
        Files.writeString(source, "public final class AllExamples {\n" + methods
            + "public static void run(int[] a) {\n" + runs + "}\n}\n");
        JavaCompiler compiler = ToolProvider.getSystemJavaCompiler();
        int failed = compiler.run(null, null, null, "--release", "17", "-d", DIRECTORY.toString(),
            "-cp", System.getProperty("java.class.path"), source.toString());
        Check.due("compiling the examples", failed, 0);
        int[] answers = new int[due.size()];
        if (failed == 0) {
            try (URLClassLoader loader = new URLClassLoader(new URL[] {DIRECTORY.toUri().toURL()})) {
                loader.loadClass("AllExamples").getMethod("run", int[].class).invoke(null, (Object) answers);
            }
        }
        for (int i = 0; i < answers.length; i++) {
            Check.due(calls.get(i), answers[i], due.get(i));
        }
    }
}

import java.io.IOException;
import java.nio.file.Files;
import java.nio.file.Path;
import java.util.ArrayList;
import java.util.HashMap;
import java.util.List;
import java.util.Map;
import java.util.TreeMap;
import java.util.TreeSet;
import java.util.regex.Matcher;
import java.util.regex.Pattern;
import java.util.stream.Stream;

/** What README.md shows: its examples are run, its tables compared with what there is. */
public final class ReadmeTest {
    private static final Path README = Path.of("README.md");
    private static final Path DOCUMENT = Path.of("../shared/DOC.md");
    private static final Pattern CALL_ROW = Pattern.compile("\\| `(\\w+)(\\(.*\\))` \\| .* \\|(.*)\\|");
    private static final Pattern CONSTANT = Pattern.compile("[A-Z]+_[A-Z]+");
    private static final Pattern CONSTANT_ROW = Pattern.compile("\\| `WireDigs\\.([A-Z_]+)` \\| (-\\d+) \\| .* \\|");
    private static final Pattern FACE_LINE = Pattern.compile(" *public int (\\w+)(\\(.*\\));");
    private static final Pattern QUESTION = Pattern.compile("- `(\\w+)`: (0: .*|0 to .*)");
    private static final Pattern TEST_ROW = Pattern.compile("\\| `(\\w+Test)` \\| .* \\|");

    private static final Map<String, Integer> CONSTANTS = Map.of(
        "INVALID_ARGUMENT", WireDigs.INVALID_ARGUMENT, "NOT_POSSIBLE", WireDigs.NOT_POSSIBLE,
        "LIMIT_REACHED", WireDigs.LIMIT_REACHED, "NOT_FOUND", WireDigs.NOT_FOUND);

    public static void main(String[] args) throws Exception {
        Check.about("README.md, ");
        List<String> lines = Files.readAllLines(README);
        Examples examples = new Examples(lines, CONSTANTS);
        examples.compare();
        constants(lines);
        tests(lines);
        if (Files.exists(DOCUMENT)) {
            List<String> document = Files.readAllLines(DOCUMENT);
            calls(lines, document);
            errors(lines, document);
            questions(lines, document);
            Check.dueThat("all calls are shown by the examples, not just " + examples.called,
                examples.called.equals(errorsOfPromises(document).keySet()));
        } else {
            System.out.println("no " + DOCUMENT + ": the calls are not compared with it");
        }
        Check.finish();
    }

    /** They stand in the order in which they are told if several apply. */
    private static void constants(List<String> lines) {
        Map<String, Integer> shown = new TreeMap<>();
        int last = 0;
        for (String line : lines) {
            Matcher row = CONSTANT_ROW.matcher(line);
            if (row.matches()) {
                int value = Integer.parseInt(row.group(2));
                Check.dueThat(row.group(1) + " behind those that are told rather", value < last);
                last = value;
                shown.put(row.group(1), value);
            }
        }
        Check.dueThat("constants: " + shown, shown.equals(CONSTANTS));
    }

    private static void tests(List<String> lines) throws IOException {
        TreeSet<String> shown = new TreeSet<>();
        for (String line : lines) {
            Matcher row = TEST_ROW.matcher(line);
            if (row.matches()) {
                shown.add(row.group(1) + ".java");
            }
        }
        TreeSet<String> there = new TreeSet<>();
        try (Stream<Path> files = Files.list(Path.of("src/test/java"))) {
            files.map(file -> file.getFileName().toString()).filter(name -> name.endsWith("Test.java")).forEach(there::add);
        }
        Check.dueThat("tests: " + shown, shown.equals(there));
    }

    /** All calls of the face with the names of their arguments, in its order. */
    private static void calls(List<String> lines, List<String> document) {
        List<String> face = new ArrayList<>();
        for (String line : document) {
            Matcher call = FACE_LINE.matcher(line);
            if (call.matches()) {
                face.add(call.group(1) + call.group(2).replace("int ", ""));
            }
        }
        List<String> shown = new ArrayList<>();
        for (String line : lines) {
            Matcher row = CALL_ROW.matcher(line);
            if (row.matches()) {
                shown.add(row.group(1) + row.group(2));
            }
        }
        Check.dueThat("calls: " + shown, shown.equals(face));
    }

    private static void errors(List<String> lines, List<String> document) {
        Map<String, TreeSet<String>> shown = new HashMap<>();
        for (String line : lines) {
            Matcher row = CALL_ROW.matcher(line);
            if (row.matches()) {
                shown.put(row.group(1), constantsIn(row.group(3)));
            }
        }
        Map<String, TreeSet<String>> promised = errorsOfPromises(document);
        for (String call : promised.keySet()) {
            Check.dueThat("errors of " + call + ": " + shown.get(call), promised.get(call).equals(shown.get(call)));
        }
    }

    /** What netOf and others are asked for stands in the document with the same words. */
    private static void questions(List<String> lines, List<String> document) {
        String promises = String.join("\n", document);
        int shown = 0;
        for (String line : String.join("\n", lines).replace("\n  ", " ").split("\n")) {
            Matcher question = QUESTION.matcher(line);
            if (question.matches()) {
                shown++;
                int promise = promises.indexOf(": " + question.group(1) + "\n");
                int said = promises.indexOf("- `what`: " + question.group(2) + "\n", Math.max(0, promise));
                int next = promises.indexOf("\n## ", Math.max(0, promise));
                Check.dueThat("what " + question.group(1) + " is asked for, in the document's words",
                    promise >= 0 && said >= 0 && said < next);
            }
        }
        Check.due("calls with a list of what they are asked for", shown, 4);
    }

    /** For each call the constants that its promise names; the first promise is none of a call. */
    private static Map<String, TreeSet<String>> errorsOfPromises(List<String> document) {
        Map<String, TreeSet<String>> errors = new TreeMap<>();
        String call = "";
        for (String line : document) {
            if (line.startsWith("#")) {
                boolean ofCall = line.matches("## Promise \\d+: \\w+");
                call = ofCall ? line.substring(line.indexOf(": ") + 2) : "";
            }
            if (!call.isEmpty()) {
                errors.computeIfAbsent(call, key -> new TreeSet<>()).addAll(constantsIn(line));
            }
        }
        return errors;
    }

    private static TreeSet<String> constantsIn(String text) {
        TreeSet<String> names = new TreeSet<>();
        Matcher name = CONSTANT.matcher(text);
        while (name.find()) {
            names.add(name.group());
        }
        return names;
    }
}

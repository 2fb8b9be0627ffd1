import java.io.IOException;
import java.nio.file.Files;
import java.nio.file.Path;
import java.util.ArrayList;
import java.util.LinkedHashMap;
import java.util.List;
import java.util.Map;

/** Tests of single sentences: each stands behind the words of the document that it tests. */
final class Edges {
    private final Map<String, List<String>> quotes = new LinkedHashMap<>();
    private String section = "";

    /** Names the section of the document that the next sentences are of. */
    void section(String title) {
        section = title;
        quotes.put(title, new ArrayList<>());
    }

    void holds(String sentence, Runnable test) {
        quotes.get(section).add(sentence);
        Check.about(section + ", \"" + sentence + "\": ");
        int made = Check.made();
        test.run();
        Check.dueThat("a test of its own", Check.made() > made);
        Check.about("");
    }

    /** All words of the terms and the promises are quoted by a test, and none that are not there. */
    void dueWhole(Path document) throws IOException {
        Map<String, String> sections = sections(Files.readAllLines(document));
        for (String title : quotes.keySet()) {
            Check.dueThat("the document has a section " + title, sections.containsKey(title));
        }
        for (String title : sections.keySet()) {
            String rest = sections.get(title);
            for (String quote : quotes.getOrDefault(title, List.of())) {
                int at = rest.indexOf(quote);
                Check.dueThat(title + " says \"" + quote + "\"", at >= 0);
                rest = at < 0 ? rest : rest.substring(0, at) + "\n" + rest.substring(at + quote.length());
            }
            Check.dueThat(title + " without words that have no test: " + rest.strip(),
                !isTested(title) || rest.chars().noneMatch(Character::isLetterOrDigit));
        }
    }

    /** FaceTest is about the public face; the other sections promise nothing. */
    private static boolean isTested(String title) {
        return title.startsWith("Promise ")
            || List.of("Cells", "Nets", "Settings", "Routes", "Claims", "Texts", "Changes and errors").contains(title);
    }

    private static Map<String, String> sections(List<String> lines) {
        Map<String, String> sections = new LinkedHashMap<>();
        String title = "";
        for (String line : lines) {
            if (line.startsWith("#")) {
                title = line.replaceFirst("#+ ", "");
            } else if (!line.startsWith("Ahead of the calls ")) {
                sections.merge(title, line + "\n", String::concat);
            }
        }
        return sections;
    }
}

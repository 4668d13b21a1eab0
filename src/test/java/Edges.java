import java.io.IOException;
import java.nio.file.Files;
import java.nio.file.Path;
import java.util.LinkedHashMap;
import java.util.Map;

/** Runs the tests of single edges: each is told with the document's own words, which must stand where it says. */
final class Edges {
    private final Map<String, String> sections = new LinkedHashMap<>();
    private final Map<String, Integer> told = new LinkedHashMap<>();

    Edges(Path document) throws IOException {
        String text = Files.readString(document).replaceAll("[ \n\r]+## ", "\n## ");
        for (String section : text.split("\n## ")) {
            String[] headAndRest = section.split("\n", 2);
            String name = headAndRest[0].replaceAll(":.*", "").trim();
            sections.put(name, headAndRest.length < 2 ? "" : headAndRest[1].replaceAll("\\s+", " "));
        }
    }

    /** One edge: in which section of the document, by which words, and the test of it. */
    void edge(String section, String words, Runnable test) {
        Check.within(section + ", '" + words + "': ");
        Check.due("the document's words", sections.getOrDefault(section, "").contains(words), true);
        told.merge(section, 1, Integer::sum);
        test.run();
        Check.within("");
    }

    void term(String words, Runnable test) {
        edge("Terms", words, test);
    }

    void promise(int number, String words, Runnable test) {
        edge("Promise " + number, words, test);
    }

    /** Each promise of the document has an edge of its own. */
    void allPromisesTold() {
        for (String section : sections.keySet()) {
            if (section.startsWith("Promise ")) {
                Check.due("edges of " + section, told.containsKey(section), true);
            }
        }
        Check.due("promises 1 to 30 in the document", sections.containsKey("Promise 1")
            && sections.containsKey("Promise 30"), true);
    }
}

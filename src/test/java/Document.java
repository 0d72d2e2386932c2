import java.io.IOException;
import java.nio.file.Files;
import java.nio.file.Path;
import java.util.LinkedHashMap;
import java.util.Map;

/** The document's sections by their names, and which of their words the tests quote. */
final class Document {

    private static final Path FILE = Path.of("../shared/DOC.md");

    /** What names no boundary case: it says in a word what the sentences behind it, which have tests, say of it. */
    private static final String[] WITHOUT_BOUNDARY = {
        "Returns a number.", "Returns that number.", "Returns a number of a car.", "Returns a number of a gap.",
        "Returns a setting.", "Tells what is at a cell."
    };

    private final Map<String, StringBuilder> sections = new LinkedHashMap<>();
    private final Map<String, boolean[]> quoted = new LinkedHashMap<>();

    static Document read() throws IOException {
        Document d = new Document();
        String name = "";
        for (String line : Files.readAllLines(FILE)) {
            if (line.startsWith("#") || line.matches("[A-Z]+( [A-Z]+)*")) {
                name = line.replaceAll("^#+ ", "");
                d.sections.put(name, new StringBuilder());
            } else if (d.sections.containsKey(name) && !line.isBlank()) {
                d.sections.get(name).append(line.replaceAll("^- ", "").strip()).append(' ');
            }
        }
        for (Map.Entry<String, StringBuilder> each : d.sections.entrySet()) {
            d.quoted.put(each.getKey(), new boolean[each.getValue().length()]);
        }
        return d;
    }

    /** Whether the words stand in the section; then they are quoted. */
    boolean quote(String section, String words) {
        StringBuilder text = sections.get(section);
        if (text == null || words.isEmpty()) {
            return false;
        }
        int at = text.indexOf(words);
        boolean found = at >= 0;
        while (at >= 0) {
            for (int i = at; i < at + words.length(); i++) {
                quoted.get(section)[i] = true;
            }
            at = text.indexOf(words, at + 1);
        }
        return found;
    }

    /** The words of a section that are neither quoted nor without a boundary case; empty if there are none. */
    String notQuoted(String section) {
        for (String words : WITHOUT_BOUNDARY) {
            quote(section, words);
        }
        StringBuilder text = sections.get(section);
        StringBuilder left = new StringBuilder();
        for (int i = 0; i < text.length(); i++) {
            left.append(quoted.get(section)[i] ? '|' : text.charAt(i));
        }
        String words = left.toString();
        if (section.startsWith("Promise")) {
            // the method's face
            words = words.replaceAll("^`[^`]*`: ", "");
        }
        // where the methods stand in the interface
        words = words.replaceAll("Ahead of the calls [^:]*says: ---- ([a-z, ]*\\.)?", "");
        return words.replaceAll("\\|+", "|").matches("[| .;:,]*") ? "" : words.replaceAll("\\|+", "|");
    }

    Iterable<String> sectionsWithSentences() {
        return sections.keySet().stream()
            .filter(name -> name.startsWith("Promise") || name.equals("Terms") || name.equals(name.toUpperCase())).toList();
    }
}

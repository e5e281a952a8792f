import java.io.IOException;
import java.nio.file.Files;
import java.nio.file.Path;
import java.util.Map;
import java.util.TreeMap;

/**
 * The document's sections, so that a test stands beside the sentence that it is for: a quote must stand in the document,
 * and at the end no word of a section may be left without one.
 */
final class Document {
    private static final Path PATH = Path.of("../shared/DOC.md");
    private static final Map<String, String> SECTIONS = read();
    private static final Map<String, boolean[]> QUOTED = new TreeMap<>();

    private Document() {
    }

    private static Map<String, String> read() {
        Map<String, String> sections = new TreeMap<>();
        try {
            for (String part : Files.readString(PATH).split("\n## ")) {
                String[] halves = part.split("\n", 2);
                String heading = halves[0].replaceAll("^(Promise \\d+):.*", "$1");
                // A promise's own signature is no sentence; FaceTest looks at it.
                String body = halves.length < 2 ? "" : halves[1].replaceFirst("^\\s*`[^`]*`: ", "");
                // Nor are the comments that part the face.
                body = body.replaceAll("Ahead of the calls [^\n]* the interface says: ---- [^\n]*", "");
                sections.put(heading, body.replaceAll("```(text)?", " ").replaceAll("\\s+", " ").strip());
            }
        } catch (IOException e) {
            throw new IllegalStateException(e);
        }
        return sections;
    }

    /** The sentence that the tests behind it are for. */
    static void quote(String heading, String sentence) {
        String section = SECTIONS.getOrDefault(heading, "");
        boolean[] quoted = QUOTED.computeIfAbsent(heading, h -> new boolean[section.length()]);
        int from = section.indexOf(sentence);
        while (from >= 0 && quoted[from]) {
            from = section.indexOf(sentence, from + 1);
        }
        Check.about(heading + ", \"" + sentence + "\"");
        Check.same("it stands in the document", from >= 0, true);
        for (int i = 0; from >= 0 && i < sentence.length(); i++) {
            quoted[from + i] = true;
        }
    }

    static void promise(int number, String sentence) {
        quote("Promise " + number, sentence);
    }

    static void wholeIsQuoted(String heading) {
        Check.about("");
        String section = SECTIONS.getOrDefault(heading, "");
        boolean[] quoted = QUOTED.getOrDefault(heading, new boolean[section.length()]);
        StringBuilder left = new StringBuilder();
        for (int i = 0; i < section.length(); i++) {
            if (!quoted[i] && Character.isLetterOrDigit(section.charAt(i))) {
                left.append(section.charAt(i));
            }
        }
        Check.same(heading + ": without a test: " + left, left.length(), 0);
        Check.same(heading + " is in the document", !section.isEmpty(), true);
    }
}

import java.io.IOException;
import java.io.UncheckedIOException;
import java.nio.charset.StandardCharsets;
import java.nio.file.Files;
import java.nio.file.Path;
import java.util.LinkedHashMap;
import java.util.Map;

/** Tests that quote the sentences of ../shared/DOC.md, so that none stays without a test of its own. */
abstract class Sentences extends Checks {
    private static final Path DOCUMENT = Path.of("..", "shared", "DOC.md");
    private static final char QUOTED = '|';

    private static final Map<String, StringBuilder> PARTS = parts();
    private static String heading = "";

    /** The sentences that come next stand below this heading. */
    static void below(String title) {
        heading = title;
        about(title);
        if (!PARTS.containsKey(title)) {
            fault("the document has no such heading");
        }
    }

    /** The test that comes next is that of these words of the document. */
    static void sentence(String words) {
        about(heading + ": \"" + words + "\"");
        strike(words);
    }

    /** Words of the document that call for no test. */
    static void noTest(String words) {
        about(heading);
        strike(words);
    }

    private static void strike(String words) {
        StringBuilder part = PARTS.get(heading);
        int from = part == null ? -1 : part.indexOf(words);
        if (from < 0) {
            fault("the document does not say \"" + words + "\" here, or says it less often");
            return;
        }
        for (int i = from; i < from + words.length(); i++) {
            part.setCharAt(i, QUOTED);
        }
    }

    /** Every word below the headings that begin so was quoted. */
    static void dueAllQuoted(String beginning) {
        for (Map.Entry<String, StringBuilder> part : PARTS.entrySet()) {
            if (part.getKey().startsWith(beginning)) {
                about(part.getKey());
                for (String rest : part.getValue().toString().split("[" + QUOTED + "]+")) {
                    if (!rest.isBlank()) {
                        fault("no test quotes \"" + rest.trim() + "\"");
                    }
                }
            }
        }
    }

    private static Map<String, StringBuilder> parts() {
        Map<String, StringBuilder> parts = new LinkedHashMap<>();
        StringBuilder part = new StringBuilder();
        for (String line : linesOfDocument()) {
            if (line.startsWith("#")) {
                part = new StringBuilder();
                parts.put(line.replaceFirst("^#+ ", ""), part);
            } else {
                part.append(withoutMarks(line)).append(' ');
            }
        }
        return parts;
    }

    /** FaceTests looks at the heads of the methods; the marks of a list and of code are no words. */
    private static String withoutMarks(String line) {
        return line.replaceFirst("^`[^`]*\\([^`]*`: ", "").replaceFirst("^- ", "").replace("`", "");
    }

    private static Iterable<String> linesOfDocument() {
        try {
            return Files.readAllLines(DOCUMENT, StandardCharsets.UTF_8);
        } catch (IOException e) {
            throw new UncheckedIOException(e);
        }
    }
}

import java.io.IOException;
import java.nio.file.Files;
import java.nio.file.Path;
import java.util.BitSet;
import java.util.LinkedHashMap;
import java.util.Map;

/** The sentences of ../shared/DOC.md, and which of their words a test has quoted. */
final class Sentences {
    private static final Path DOCUMENT = Path.of("../shared/DOC.md");

    private final Map<String, String> texts = new LinkedHashMap<>();
    private final Map<String, BitSet> quoted = new LinkedHashMap<>();

    Sentences() throws IOException {
        String heading = "";
        for (String line : Files.readAllLines(DOCUMENT)) {
            if (line.startsWith("## ")) {
                heading = line.substring(3).replaceAll(":.*", "");
            } else if (!line.startsWith("```") && !line.startsWith("Ahead of the calls")) {
                String words = line.replaceAll("^`[^`]*`: |======== \\d ", "").trim();
                texts.merge(heading, words, (before, more) -> (before + " " + more).trim());
            }
        }
        for (String each : texts.keySet()) {
            quoted.put(each, new BitSet());
        }
    }

    /** These words must stand under that heading, and once only: else the test quotes badly. */
    void quote(String heading, String words) {
        String text = texts.get(heading);
        int at = text == null ? -1 : text.indexOf(words);
        if (at < 0 || text.indexOf(words, at + 1) >= 0) {
            throw new IllegalStateException(heading + " does not say once: " + words);
        }
        quoted.get(heading).set(at, at + words.length());
    }

    /** What no test has quoted of the terms and the promises: empty, if nothing is left. */
    String notQuoted() {
        StringBuilder left = new StringBuilder();
        for (Map.Entry<String, String> each : texts.entrySet()) {
            if (each.getKey().equals("Terms") || each.getKey().startsWith("Promise ")) {
                addNotQuoted(left, each.getKey(), each.getValue());
            }
        }
        return left.toString();
    }

    private void addNotQuoted(StringBuilder left, String heading, String text) {
        for (int i = 0; i < text.length(); i++) {
            if (Character.isLetterOrDigit(text.charAt(i)) && !quoted.get(heading).get(i)) {
                int end = quoted.get(heading).nextSetBit(i);
                String words = text.substring(i, end < 0 ? text.length() : end);
                left.append(heading).append(": ").append(words).append('\n');
                i += words.length();
            }
        }
    }

    /** How many promises the document has. */
    long promises() {
        return texts.keySet().stream().filter(heading -> heading.startsWith("Promise ")).count();
    }
}

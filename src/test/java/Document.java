import java.io.IOException;
import java.nio.file.Files;
import java.nio.file.Path;
import java.util.Map;
import java.util.TreeMap;

/** The document's Terms (0) and promises (by their numbers), and which of their words have been quoted. */
final class Document {
    static final int TERMS = 0;
    private static final Path PLACE = Path.of("..", "shared", "DOC.md");
    private final Map<Integer, StringBuilder> parts = new TreeMap<>();
    private final Map<Integer, boolean[]> quoted = new TreeMap<>();

    Document() {
        int part = -1;
        for (String line : lines()) {
            if (line.startsWith("## ")) {
                part = numberOf(line.substring(3));
            } else if (part >= 0 && !line.startsWith("```")) {
                parts.computeIfAbsent(part, k -> new StringBuilder()).append(line).append('\n');
            }
        }
        for (Map.Entry<Integer, StringBuilder> entry : parts.entrySet()) {
            quoted.put(entry.getKey(), new boolean[entry.getValue().length()]);
        }
    }

    private static String[] lines() {
        if (!Files.isReadable(PLACE)) {
            return new String[] {};
        }
        try {
            return Files.readString(PLACE).split("\n");
        } catch (IOException e) {
            throw new IllegalStateException(e);
        }
    }

    private static int numberOf(String heading) {
        if (heading.equals("Terms")) {
            return TERMS;
        }
        return heading.startsWith("Promise ") ? Integer.parseInt(heading.replaceAll("Promise (\\d+):.*", "$1")) : -1;
    }

    /** Without the document at hand nothing can be quoted wrongly. */
    boolean isThere() {
        return !parts.isEmpty();
    }

    /** Whether the words stand in that part; they count as quoted then. */
    boolean quote(int part, String words) {
        StringBuilder text = parts.get(part);
        int from = text == null ? -1 : text.indexOf(words);
        if (from < 0) {
            return false;
        }
        for (int i = from; i < from + words.length(); i++) {
            quoted.get(part)[i] = true;
        }
        return true;
    }

    /** The words of a part that nobody has quoted; empty if there are none. */
    String unquoted(int part) {
        StringBuilder left = new StringBuilder();
        StringBuilder text = parts.get(part);
        for (int i = 0; text != null && i < text.length(); i++) {
            left.append(quoted.get(part)[i] ? ' ' : text.charAt(i));
        }
        // A promise's signature, the numbers of the Terms' parts, and the constant have tests by being used.
        return left.toString().replaceAll("`[^`]*`:", "").replaceAll("==== [1-4]\\.", "")
                .replace("The constants:", "").replaceAll("\\s+", " ").trim();
    }

    Iterable<Integer> parts() {
        return parts.keySet();
    }
}

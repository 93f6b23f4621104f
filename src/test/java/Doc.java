import java.io.IOException;
import java.nio.file.Files;
import java.nio.file.Path;
import java.util.LinkedHashMap;
import java.util.Map;

/**
 * Marks tests with the words of ../shared/DOC.md that they are for. In the end each word of the sections
 * that were marked has a test, or was said to name no boundary case: so no sentence is forgotten.
 */
final class Doc {
    private static final Path FILE = Path.of("../shared/DOC.md");
    private static final Map<String, String> TEXTS = new LinkedHashMap<>();
    private static final Map<String, boolean[]> MARKED = new LinkedHashMap<>();
    private static String open = "";
    private static int checksBefore;

    /** The checks from here on, up to the next mark, are for these words. */
    static void of(String section, String words) {
        close();
        open = section + ": " + words;
        Check.nowFor(open);
        checksBefore = Check.count();
        mark(section, words);
    }

    /** Words that name no boundary case. */
    static void noEdge(String section, String words) {
        mark(section, words);
    }

    static void read() throws IOException {
        if (!Files.exists(FILE)) {
            System.out.println("the marks are not compared: there is no " + FILE);
            return;
        }
        String[] parts = Files.readString(FILE).split("(?m)^##+ ");
        for (String part : parts) {
            int end = part.indexOf('\n');
            String title = part.substring(0, end).replaceAll(":.*", "").strip();
            String text = part.substring(end).replaceAll("(?m)^- ", "").replaceAll("\\s+", " ");
            TEXTS.put(title, text);
            MARKED.put(title, new boolean[text.length()]);
            if (title.startsWith("Promise ")) {
                // The head of the method: FaceTest looks at it.
                mark(title, text.substring(text.indexOf('`'), text.indexOf(':')));
            }
        }
    }

    private static void mark(String section, String words) {
        if (TEXTS.isEmpty()) {
            return;
        }
        String text = TEXTS.getOrDefault(section, "");
        int start = text.indexOf(words);
        if (start < 0) {
            Check.holds("DOC.md has no such words: " + section + ": " + words, false);
            return;
        }
        for (int i = start; i < start + words.length(); i++) {
            MARKED.get(section)[i] = true;
        }
    }

    private static void close() {
        Check.holds("nothing is checked for " + open, open.isEmpty() || Check.count() > checksBefore);
        Check.nowFor("");
        open = "";
    }

    static void end() {
        close();
        for (String section : TEXTS.keySet()) {
            boolean isTold = section.startsWith("Promise ") || isOfTerms(section);
            String left = isTold ? unmarked(section) : "";
            Check.holds("without a test: " + section + ": " + left, left.isEmpty());
        }
    }

    private static boolean isOfTerms(String section) {
        return switch (section) {
            case "Terms", "The flow", "Readings", "The flow that is told", "Work", "Settings", "Input text",
                "Exceptions" -> true;
            default -> false;
        };
    }

    private static String unmarked(String section) {
        String text = TEXTS.get(section);
        StringBuilder left = new StringBuilder();
        for (int i = 0; i < text.length(); i++) {
            boolean isLeft = !MARKED.get(section)[i] && Character.isLetterOrDigit(text.charAt(i));
            if (isLeft) {
                left.append(text.charAt(i));
            } else if (left.length() > 0 && left.charAt(left.length() - 1) != ' ') {
                left.append(' ');
            }
        }
        return left.toString();
    }

    private Doc() {
    }
}

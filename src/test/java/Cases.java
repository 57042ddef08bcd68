import java.io.IOException;
import java.nio.file.Files;
import java.nio.file.Path;
import java.util.ArrayList;
import java.util.List;
import java.util.Map;
import java.util.TreeMap;
import java.util.regex.Matcher;
import java.util.regex.Pattern;

/**
 * Cases by the document's own words: each is quoted from its passage, and holds one answer at least. What no case has
 * quoted at the end is told, so a sentence that is new in the document is missed here.
 */
final class Cases {
    static final int TERMS = 0;
    static final int USE = -1;
    private static final Path DOCUMENT = Path.of("../shared/DOC.md");
    private static final Map<Integer, String> PASSAGES = new TreeMap<>();
    private static final Map<Integer, boolean[]> QUOTED = new TreeMap<>();
    private static final List<String> FLAWS = new ArrayList<>();
    private static String open;
    private static int answersBefore;

    private Cases() {
    }

    static void read() throws IOException {
        String text = Files.readString(DOCUMENT).replaceAll("\\s+", " ");
        passage(USE, text, "==== 1\\. (An object is .*?) ## The public face");
        passage(TERMS, text, "## Terms (.*?) ## Promise 1:");
        for (int i = 1; i <= 42; i++) {
            passage(i, text, "## Promise " + i + ": [^`]*`[^`]*`: (.*?) ## ");
        }
    }

    private static void passage(int number, String text, String shape) {
        Matcher found = Pattern.compile(shape).matcher(text);
        if (!found.find()) {
            throw new IllegalStateException("no passage " + number);
        }
        String words = found.group(1).replaceAll("==== \\d\\. ", "").replaceAll("```(text)? ?", "");
        PASSAGES.put(number, words);
        QUOTED.put(number, new boolean[words.length()]);
    }

    /** What is held from here on, till the next quote, is a case of these words of the passage. */
    static void says(int number, String... quotes) {
        closeOne();
        String name = number == USE ? "What it is" : number == TERMS ? "Terms" : "Promise " + number;
        for (String quote : quotes) {
            int at = PASSAGES.get(number).indexOf(quote);
            if (at < 0) {
                FLAWS.add(name + " does not say: " + quote);
            }
            for (int i = Math.max(at, 0); i < at + quote.length(); i++) {
                QUOTED.get(number)[i] = true;
            }
        }
        open = name + " '" + String.join("' '", quotes) + "'";
        answersBefore = Due.answers();
        Due.under(open);
    }

    private static void closeOne() {
        if (open != null && Due.answers() == answersBefore) {
            FLAWS.add(open + " holds nothing");
        }
        open = null;
        Due.under("");
    }

    static void close() {
        closeOne();
        PASSAGES.forEach((number, words) -> {
            StringBuilder rest = new StringBuilder();
            for (int i = 0; i < words.length(); i++) {
                rest.append(QUOTED.get(number)[i] ? '\n' : words.charAt(i));
            }
            for (String piece : rest.toString().split("\n+")) {
                if (piece.matches(".*[A-Za-z0-9].*")) {
                    FLAWS.add("no case of passage " + number + ": " + piece);
                }
            }
        });
        Due.is("cases and the document", () -> String.join("\n    ", FLAWS), "");
    }
}

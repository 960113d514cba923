import java.nio.charset.StandardCharsets;
import java.nio.file.Files;
import java.nio.file.Path;
import java.util.Arrays;
import java.util.regex.Matcher;
import java.util.regex.Pattern;

/**
 * Whether what the tests of boundary cases quote with says(..) is the document's, and whether every
 * sentence of its terms and promises is quoted by one of them.
 */
public final class SentenceTest {

    private static final String[] TESTS = {"TextEdges", "DayEdges", "AskEdges"};
    private static final Pattern SAYS = Pattern.compile("says\\(((?:\"(?:[^\"\\\\]|\\\\.)*\"[\\s+]*)+)\\)");
    private static final Pattern TEXT = Pattern.compile("\"((?:[^\"\\\\]|\\\\.)*)\"");

    /** What only names a thing, or leads to it, and has no boundary of its own. */
    private static final String[] NAMES = {"## Terms", "```text", "```", "==== II.", "==== III.", "A DAY:",
        "ACTS: a DAY", "(these brackets are signs)", "of a PERSON at a PLACE and of a THING they have or that lies there:",
        "by the RULE IN FORCE,", "The constants:", ": None.", "## Promise"};

    private static int wrong = 0;

    public static void main(String[] args) throws Exception {
        String document = Files.readString(Path.of("../shared/DOC.md"), StandardCharsets.UTF_8).replaceAll("\\s+", " ");
        boolean[] quoted = new boolean[document.length()];
        int quotes = 0;
        for (String test : TESTS) {
            String source = Files.readString(Path.of("src/test/java/" + test + ".java"), StandardCharsets.UTF_8);
            Matcher says = SAYS.matcher(source);
            while (says.find()) {
                quote(document, quoted, test, joined(says.group(1)));
                quotes++;
            }
        }
        quoteNames(document, quoted);
        unquoted(document, quoted);
        if (wrong != 0) {
            System.exit(1);
        }
        System.out.println(quotes + " quotes have all that the document says");
    }

    private static String joined(String parts) {
        StringBuilder text = new StringBuilder();
        Matcher part = TEXT.matcher(parts);
        while (part.find()) {
            text.append(part.group(1));
        }
        return text.toString();
    }

    private static void quote(String document, boolean[] quoted, String test, String words) {
        if (!document.contains(words)) {
            wrong++;
            System.out.println(test + ": the document does not say '" + words + "'");
        }
        mark(document, quoted, words);
    }

    private static void mark(String document, boolean[] quoted, String words) {
        for (int at = document.indexOf(words); at >= 0; at = document.indexOf(words, at + 1)) {
            Arrays.fill(quoted, at, at + words.length(), true);
        }
    }

    private static void quoteNames(String document, boolean[] quoted) {
        for (String name : NAMES) {
            mark(document, quoted, name);
        }
        Matcher code = Pattern.compile("## Promise [^`]*`[^`]*`").matcher(document);
        while (code.find()) {
            Arrays.fill(quoted, code.start(), code.end(), true);
        }
    }

    private static void unquoted(String document, boolean[] quoted) {
        int from = document.indexOf("## Terms");
        int to = document.indexOf("## Not promised");
        StringBuilder left = new StringBuilder();
        for (int i = from; i < to; i++) {
            if (!quoted[i]) {
                left.append(document.charAt(i));
            } else if (left.length() > 0) {
                complain(left.toString());
                left.setLength(0);
            }
        }
        complain(left.toString());
    }

    private static void complain(String words) {
        if (words.matches(".*[A-Za-z0-9].*")) {
            wrong++;
            System.out.println("no test of a boundary case has '" + words.trim() + "'");
        }
    }
}

import java.io.IOException;
import java.nio.file.DirectoryStream;
import java.nio.file.Files;
import java.nio.file.Path;
import java.util.regex.Matcher;
import java.util.regex.Pattern;

/** Each word of the document's terms and promises is quoted by a test that is held to it (see Says): nothing is left untested. */
public final class EveryWordTest {
    private static final Path DOCUMENT = Path.of("../shared/DOC.md");
    private static final String TERMS = "## Terms";
    private static final String FIRST = "## Promise 1:";
    private static final String BEHIND = "## Not promised";
    private static final Pattern TEST = Pattern.compile("@Says\\(((?:\\s*\\+?\\s*\"(?:[^\"\\\\]|\\\\.)*\")+)\\)\\s+static void promise(\\d+)_");
    private static final Pattern TEXT = Pattern.compile("\"((?:[^\"\\\\]|\\\\.)*)\"");
    /** Heads of sections and of parts, fences, and what RulesTest holds the class to: the methods' faces. */
    private static final Pattern NO_SENTENCE = Pattern.compile("## Promise \\d+: [A-Za-z ]+ `[^`]*`:|## Terms|==== \\d\\.|```(text)?");

    public static void main(String[] args) throws IOException {
        if (!Files.exists(DOCUMENT)) {
            System.out.println("there is no " + DOCUMENT + " to hold the tests against");
            return;
        }
        String document = Files.readString(DOCUMENT).replaceAll("\\s+", " ");
        boolean[] said = new boolean[document.length()];
        Matcher heads = NO_SENTENCE.matcher(document);
        while (heads.find()) {
            mark(said, heads.start(), heads.end());
        }
        int quotes = 0;
        try (DirectoryStream<Path> tests = Files.newDirectoryStream(Path.of("src/test/java"), "*.java")) {
            for (Path test : tests) {
                quotes += markQuotes(Files.readString(test), document, said);
            }
        }
        int left = tellWhatIsLeft(document, said);
        System.out.println(quotes + " quotes, " + left + " passages without a test");
        if (left != 0 || quotes == 0) {
            System.exit(1);
        }
    }

    private static void mark(boolean[] said, int from, int to) {
        for (int i = from; i < to; i++) {
            said[i] = true;
        }
    }

    private static int markQuotes(String source, String document, boolean[] said) {
        int quotes = 0;
        Matcher test = TEST.matcher(source);
        while (test.find()) {
            StringBuilder words = new StringBuilder();
            Matcher text = TEXT.matcher(test.group(1));
            while (text.find()) {
                words.append(text.group(1).replace("\\\"", "\""));
            }
            String own = "## Promise " + test.group(2) + ":";
            markAll(words.toString(), document, document.indexOf(TERMS), document.indexOf(FIRST), said);
            markAll(words.toString(), document, document.indexOf(own), document.indexOf("## ", document.indexOf(own) + 3), said);
            quotes++;
        }
        return quotes;
    }

    private static void markAll(String words, String document, int from, int to, boolean[] said) {
        for (int at = document.indexOf(words, from); at >= 0 && at + words.length() <= to; at = document.indexOf(words, at + 1)) {
            mark(said, at, at + words.length());
        }
    }

    private static int tellWhatIsLeft(String document, boolean[] said) {
        int left = 0;
        int end = document.indexOf(BEHIND);
        for (int from = document.indexOf(TERMS); from < end; from++) {
            int to = from;
            while (to < end && !said[to]) {
                to++;
            }
            String passage = document.substring(from, to);
            if (passage.matches(".*[A-Za-z0-9].*")) {
                left++;
                System.out.println("no test says: " + passage);
            }
            from = to;
        }
        return left;
    }
}

import java.io.IOException;
import java.nio.file.DirectoryStream;
import java.nio.file.Files;
import java.nio.file.Path;
import java.util.Arrays;
import java.util.Map;
import java.util.TreeMap;
import java.util.regex.Matcher;
import java.util.regex.Pattern;

/**
 * Each word of the document's Terms and Promises is quoted by a test, in the part of the document in which it stands.
 *
 * Tests tell by due.says(promise, words) which words the answers that follow are due by; the Terms are 0.
 */
public final class SentencesTest {
    private static final Path DOCUMENT = Path.of("../shared/DOC.md");
    private static final Path TESTS = Path.of("src/test/java");
    private static final Pattern PART = Pattern.compile("(?ms)^## (Terms|Promise (\\d+): [^\n]*)$(.*?)(?=^## |\\z)");
    private static final Pattern QUOTE =
        Pattern.compile("\\bsays\\((\\d+),\\s*((?:\"[^\"]*\"\\s*\\+?\\s*)+)\\)");
    private static final Due due = new Due("SentencesTest");

    public static void main(String[] args) throws IOException {
        Map<Integer, String> parts = parts();
        Map<Integer, boolean[]> quoted = new TreeMap<>();
        parts.forEach((part, text) -> quoted.put(part, new boolean[text.length()]));
        due.is("parts of the document", parts.size(), 30);
        int quotes = 0;
        try (DirectoryStream<Path> files = Files.newDirectoryStream(TESTS, "*Test.java")) {
            for (Path file : files) {
                quotes += markQuotes(file, parts, quoted);
            }
        }
        parts.forEach((part, text) -> allIsQuoted(part, text, quoted.get(part)));
        System.out.println("SentencesTest: " + quotes + " quotes");
        due.end();
    }

    private static Map<Integer, String> parts() throws IOException {
        Map<Integer, String> parts = new TreeMap<>();
        Matcher m = PART.matcher(Files.readString(DOCUMENT));
        while (m.find()) {
            parts.put(m.group(2) == null ? 0 : Integer.parseInt(m.group(2)), words(m.group(3)));
        }
        return parts;
    }

    /** Without the calls' heads, the marks around blocks and what only tells how the face is laid out. */
    private static String words(String text) {
        return text.replaceAll("(?m)^```.*$", " ")
            .replaceAll("(?m)^Ahead of the calls .*$", " ")
            .replaceAll("(?m)^`[^`]*`: ", " ")
            .replaceAll("==== \\d", " ")
            .replaceAll("\\s+", " ");
    }

    private static int markQuotes(Path file, Map<Integer, String> parts, Map<Integer, boolean[]> quoted)
        throws IOException {
        int quotes = 0;
        Matcher m = QUOTE.matcher(Files.readString(file));
        while (m.find()) {
            int part = Integer.parseInt(m.group(1));
            String words = m.group(2).replaceAll("\"\\s*\\+\\s*\"", "").replaceAll("^\"|\"\\s*$", "");
            int at = parts.containsKey(part) ? parts.get(part).indexOf(words) : -1;
            due.is(file.getFileName() + " quotes part " + part + ": " + words, at >= 0 ? 1 : 0, 1);
            for (; at >= 0; at = parts.get(part).indexOf(words, at + 1)) {
                Arrays.fill(quoted.get(part), at, at + words.length(), true);
            }
            quotes++;
        }
        return quotes;
    }

    private static void allIsQuoted(int part, String text, boolean[] quoted) {
        StringBuilder left = new StringBuilder();
        for (int i = 0; i < text.length(); i++) {
            boolean counts = Character.isLetterOrDigit(text.charAt(i)) && !quoted[i];
            left.append(counts ? text.charAt(i) : ' ');
        }
        String words = left.toString().trim().replaceAll("\\s+", " ");
        due.is("no test quotes, of part " + part + ": " + words, words.length(), 0);
    }
}

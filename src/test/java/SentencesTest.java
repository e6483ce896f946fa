import java.io.IOException;
import java.nio.file.DirectoryStream;
import java.nio.file.Files;
import java.nio.file.Path;
import java.util.ArrayList;
import java.util.Arrays;
import java.util.HashMap;
import java.util.List;
import java.util.Map;
import java.util.regex.Matcher;
import java.util.regex.Pattern;

/** Each sentence of the document's Terms and promises is one that some test says it stands for. */
public final class SentencesTest {
    private static final Pattern STANDS_FOR = Pattern.compile(
        "Document\\.(?:says\\((\\d+),|terms\\()\\s*((?:\"(?:[^\"\\\\]|\\\\.)*\"[\\s+]*)+)\\)");
    private static final Pattern LITERAL = Pattern.compile("\"((?:[^\"\\\\]|\\\\.)*)\"");

    /** Headings, signatures, and where the calls are parted into groups: nothing that could be tested. */
    private static final String NO_SENTENCE = "## Terms|## Promise \\d+: [\\w ]+ `[^`]*`:|==== \\d( THE BOARD\\.)?"
        + "|Ahead of the calls (`\\w+`,? )+the interface says: ---- [\\w' ]+[:.]";

    public static void main(String[] args) throws IOException {
        Map<String, List<String>> quotes = quotes();
        untested("Terms", quotes);
        for (int promise = 1; promise <= 31; promise++) {
            untested("Promise " + promise + ":", quotes);
        }
        Check.end();
    }

    private static Map<String, List<String>> quotes() throws IOException {
        Map<String, List<String>> quotes = new HashMap<>();
        try (DirectoryStream<Path> tests = Files.newDirectoryStream(Path.of("src/test/java"), "*Test.java")) {
            for (Path test : tests) {
                Matcher m = STANDS_FOR.matcher(Files.readString(test));
                while (m.find()) {
                    String heading = m.group(1) == null ? "Terms" : "Promise " + m.group(1) + ":";
                    quotes.computeIfAbsent(heading, h -> new ArrayList<>()).add(joined(m.group(2)));
                }
            }
        }
        return quotes;
    }

    private static String joined(String literals) {
        StringBuilder all = new StringBuilder();
        Matcher m = LITERAL.matcher(literals);
        while (m.find()) {
            all.append(m.group(1));
        }
        return all.toString();
    }

    private static void untested(String heading, Map<String, List<String>> quotes) {
        String section = Document.section(heading);
        if (section == null) {
            return;
        }
        char[] left = section.toCharArray();
        for (String quote : quotes.getOrDefault(heading, List.of())) {
            for (int at = section.indexOf(quote); at >= 0; at = section.indexOf(quote, at + 1)) {
                Arrays.fill(left, at, at + quote.length(), '~');
            }
        }
        String rest = new String(left).replaceAll(NO_SENTENCE, "~").replaceAll("[~\\s]+", " ").trim();
        Check.due("under " + heading + " no test stands for: " + rest, rest.isEmpty());
    }
}

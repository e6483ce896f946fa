import java.io.IOException;
import java.nio.file.Files;
import java.nio.file.Path;

/** The words of the document that a test stands for: they must be found where the test says. */
final class Document {
    private static final Path FILE = Path.of("..", "shared", "DOC.md");

    private Document() {
    }

    /** A sentence, or a piece of one, of a promise. */
    static void says(int promise, String words) {
        look("Promise " + promise + ":", words);
    }

    /** A sentence, or a piece of one, of the Terms with their parts 1 to 4. */
    static void terms(String words) {
        look("Terms", words);
    }

    /** The text under a heading, in one line; null if the document is not there. */
    static String section(String heading) {
        if (!Files.exists(FILE)) {
            return null;
        }
        try {
            String all = Files.readString(FILE);
            int from = all.indexOf("\n## " + heading);
            int to = from < 0 ? -1 : all.indexOf("\n## ", from + 1);
            return from < 0 ? "" : inOneLine(all.substring(from, to < 0 ? all.length() : to));
        } catch (IOException e) {
            return null;
        }
    }

    private static String inOneLine(String text) {
        return text.replaceAll("```\\w*", " ").replaceAll("\\s+", " ");
    }

    private static void look(String heading, String words) {
        String section = section(heading);
        if (section != null) {
            Check.due("the document says \"" + words + "\" under " + heading, section.contains(words));
        }
    }
}

import java.io.IOException;
import java.lang.reflect.Method;
import java.nio.file.Files;
import java.nio.file.Path;
import java.util.List;
import java.util.Map;
import java.util.Set;
import java.util.TreeMap;
import java.util.TreeSet;
import java.util.regex.Matcher;
import java.util.regex.Pattern;

/** What README.md tells of the class is so: its example, its table of calls, its constants. */
public final class ReadmeTest {
    private static final Pattern CALL = Pattern.compile("board\\.(\\w+)\\(((?:board\\.\\w+\\([^()]*\\))|[^()]*)\\)");
    private static final Pattern LINE = Pattern.compile("(board\\..*); +// (-?\\d+)\\b.*");
    private static final Pattern MADE = Pattern.compile("LeaseBoard board = new LeaseBoard\\((\\d+)\\);.*");
    private static final Pattern ROW = Pattern.compile("\\| `(\\w+)\\(([\\w, ]*)\\)` \\|[^|]*\\|([^|]*)\\|");
    private static final Pattern FACE = Pattern.compile("public (?:int|long) (\\w+)\\(([\\w, ]*)\\);");
    private static final Pattern REFUSAL = Pattern.compile("\\b(BAD|STATE|FULL|NO|NONE)\\b");
    private static final Set<String> ACTS = Set.of("ask", "renew", "end", "rise");

    public static void main(String[] args) throws IOException, ReflectiveOperationException {
        String readme = Files.readString(Path.of("README.md"));
        example(readme);
        table(readme);
        constants(readme);
        Check.end();
    }

    private static void example(String readme) throws ReflectiveOperationException {
        LeaseBoard board = null;
        int calls = 0;
        int from = readme.indexOf("```java\n");
        int to = readme.indexOf("```\n", from + 1);
        for (String line : readme.substring(from + 8, to).split("\n")) {
            Matcher made = MADE.matcher(line);
            Matcher call = LINE.matcher(line);
            if (made.matches()) {
                board = new LeaseBoard(Integer.parseInt(made.group(1)));
            } else if (call.matches()) {
                Check.due(line, answer(board, call.group(1)), Long.parseLong(call.group(2)));
                calls++;
            } else {
                Check.due("neither a board that is made nor a call with its answer: " + line, false);
            }
        }
        Check.due("an example of some calls", calls > 10);
    }

    /** A call whose arguments are numbers, or one that is such a call itself. */
    private static long answer(LeaseBoard board, String text) throws ReflectiveOperationException {
        Matcher m = CALL.matcher(text);
        if (!m.matches()) {
            throw new IllegalArgumentException("no call: " + text);
        }
        String[] texts = m.group(2).isEmpty() ? new String[0]
            : m.group(2).startsWith("board.") ? new String[] {m.group(2)} : m.group(2).split(", ");
        Method method = methodNamed(m.group(1));
        Object[] values = new Object[texts.length];
        for (int i = 0; i < texts.length; i++) {
            Class<?> type = method.getParameterTypes()[i];
            long value = type == boolean.class ? 0
                : texts[i].startsWith("board.") ? answer(board, texts[i]) : Long.parseLong(texts[i]);
            values[i] = type == boolean.class ? (Object) Boolean.valueOf(texts[i])
                : type == long.class ? (Object) value : (Object) (int) value;
        }
        return ((Number) method.invoke(board, values)).longValue();
    }

    private static Method methodNamed(String name) {
        for (Method m : LeaseBoard.class.getMethods()) {
            if (m.getName().equals(name) && m.getDeclaringClass() == LeaseBoard.class) {
                return m;
            }
        }
        throw new IllegalArgumentException("no method " + name);
    }

    /** Each call of the document's face is in the table with its arguments' names and the refusals of its promise. */
    private static void table(String readme) {
        Map<String, String> arguments = new TreeMap<>();
        Map<String, Set<String>> refusals = new TreeMap<>();
        Matcher row = ROW.matcher(readme);
        while (row.find()) {
            Check.due("once: " + row.group(1), arguments.put(row.group(1), row.group(2)) == null);
            refusals.put(row.group(1), refusalsIn(row.group(3)));
        }
        String text = Document.section("The public face");
        if (text == null) {
            return;
        }
        Matcher face = FACE.matcher(text);
        int promise = 1;
        while (face.find()) {
            promise++;
            String name = face.group(1);
            String names = face.group(2).replaceAll("(int|long|boolean) ", "");
            Check.due("the table has " + name + "(" + names + ")", names.equals(arguments.remove(name)));
            Set<String> due = refusalsIn(Document.section("Promise " + promise + ": " + name));
            due.addAll(ACTS.contains(name) ? List.of("BAD", "STATE", "FULL") : List.of());
            Check.due("the refusals of " + name + " are " + due, due.equals(refusals.get(name)));
        }
        Check.due("all promises but the first", promise, 31);
        Check.due("the document has no " + arguments.keySet(), arguments.isEmpty());
    }

    private static Set<String> refusalsIn(String text) {
        Set<String> found = new TreeSet<>();
        Matcher m = REFUSAL.matcher(text == null ? "" : text);
        while (m.find()) {
            found.add(m.group(1));
        }
        return found;
    }

    private static void constants(String readme) {
        Map<String, Long> values = Map.of("BAD", (long) LeaseBoard.BAD, "STATE", (long) LeaseBoard.STATE,
            "FULL", (long) LeaseBoard.FULL, "NONE", (long) LeaseBoard.NONE, "NO", LeaseBoard.NO);
        for (Map.Entry<String, Long> e : values.entrySet()) {
            Check.due("the value of " + e.getKey(), readme.contains("| `" + e.getKey() + "` | " + e.getValue() + " |"));
        }
    }
}

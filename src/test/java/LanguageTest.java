import java.io.IOException;
import java.lang.reflect.Constructor;
import java.lang.reflect.Executable;
import java.lang.reflect.Field;
import java.lang.reflect.Method;
import java.lang.reflect.Modifier;
import java.nio.charset.StandardCharsets;
import java.nio.file.Files;
import java.nio.file.Path;
import java.util.ArrayList;
import java.util.Arrays;
import java.util.List;
import java.util.Set;
import java.util.TreeSet;
import java.util.regex.Matcher;
import java.util.regex.Pattern;

/** What of the language's rules can be seen from the class's text and from its face. */
public final class LanguageTest {
    private static final String FACE = """
        public static final int BAD
        public static final int FULL
        public static final int NONE
        public static final int STATE
        public static final long NO
        public LeaseBoard(int)
        public int keeper(int,int)
        public int worker(int,int)
        public int thing(int,int,int)
        public int store()
        public int tick(int)
        public long clock(int,int)
        public int wake(int,int,boolean)
        public int fall(int)
        public int lead(int)
        public int ask(int,int,int,int,int)
        public int renew(int,int,int)
        public int end(int,int,int)
        public int rise(int,int,int)
        public int deliver(int)
        public int lose(int)
        public int twice(int)
        public int letter(int,int)
        public long wrote(int,int)
        public int look(int)
        public int grant(int,int,int)
        public long ends(int,int,int)
        public int told(int,int)
        public int holds(int,int,int)
        public long held(int,int,int)
        public int write(int,int,int,long)
        public long stored(int,int,int)
        public int count(int)
        public int put(int,int,int)
        public int forge(int,int,int)
        public int status()
        """;

    public static void main(String[] args) throws IOException {
        face();
        for (Class<?> c : classes()) {
            shape(c);
        }
        Check.due("at most twelve classes", classes().size() <= 12);
        text(Files.readString(Path.of("src/main/java/LeaseBoard.java"), StandardCharsets.ISO_8859_1));
        Check.end();
    }

    private static List<Class<?>> classes() {
        List<Class<?>> all = new ArrayList<>(Arrays.asList(LeaseBoard.class.getDeclaredClasses()));
        all.add(LeaseBoard.class);
        return all;
    }

    private static String types(Executable e) {
        StringBuilder s = new StringBuilder();
        for (Class<?> c : e.getParameterTypes()) {
            s.append(s.length() == 0 ? "" : ",").append(c.getSimpleName());
        }
        return "(" + s + ")";
    }

    private static void face() {
        Set<String> members = new TreeSet<>();
        for (Field f : LeaseBoard.class.getDeclaredFields()) {
            if (!Modifier.isPrivate(f.getModifiers())) {
                members.add(Modifier.toString(f.getModifiers()) + " " + f.getType() + " " + f.getName());
            }
        }
        for (Constructor<?> c : LeaseBoard.class.getDeclaredConstructors()) {
            members.add(Modifier.toString(c.getModifiers()) + " LeaseBoard" + types(c));
        }
        Set<String> open = new TreeSet<>();
        for (Method m : LeaseBoard.class.getDeclaredMethods()) {
            if (!Modifier.isPrivate(m.getModifiers())) {
                members.add(Modifier.toString(m.getModifiers()) + " " + m.getReturnType() + " " + m.getName() + types(m));
                open.add(m.getName());
            }
        }
        Set<String> due = new TreeSet<>(FACE.lines().toList());
        for (String s : due) {
            Check.due("the face has " + s, members.contains(s));
        }
        for (String s : members) {
            Check.due("the document has " + s, due.contains(s));
        }
        for (Class<?> c : classes()) {
            for (Method m : c.getDeclaredMethods()) {
                boolean face = c == LeaseBoard.class && !Modifier.isPrivate(m.getModifiers());
                Check.due("no other bears the name " + m.getName(), face || !open.contains(m.getName()));
            }
        }
        Check.due("final", Modifier.isFinal(LeaseBoard.class.getModifiers()));
    }

    private static void shape(Class<?> c) {
        int fields = 0;
        for (Field f : c.getDeclaredFields()) {
            boolean constant = Modifier.isStatic(f.getModifiers());
            fields += constant ? 0 : 1;
            Check.due(f + " is final if static", !constant || Modifier.isFinal(f.getModifiers()));
        }
        Check.due(c + " has at most twenty fields", fields <= 20);
        for (Method m : c.getDeclaredMethods()) {
            Check.due(m + " has at most seven parameters", m.getParameterCount() <= 7);
        }
        for (Constructor<?> k : c.getDeclaredConstructors()) {
            Check.due(k + " has at most seven parameters", k.getParameterCount() <= 7);
        }
        if (c != LeaseBoard.class) {
            Check.due(c + " is static", Modifier.isStatic(c.getModifiers()));
            Check.due(c + " is not open", (c.getModifiers() & (Modifier.PUBLIC | Modifier.PROTECTED)) == 0);
        }
    }

    private static void text(String source) {
        for (int i = 0; i < source.length(); i++) {
            if (source.charAt(i) < 1 || source.charAt(i) > 127) {
                Check.due("a sign at " + i, source.charAt(i), 127);
            }
        }
        String code = source.replaceAll("(?s)/\\*.*?\\*/", "").replaceAll("//[^\n]*", "");
        String[] not = {"throw", "throws", "try", "catch", "finally", "synchronized", "assert", "native", "volatile",
            "transient", "package", "goto", "Object", "hashCode", "toString", "System", "Thread", "Random", "var",
            "double", "float", "Exception", "Error"};
        for (String word : not) {
            Check.due("no " + word, !Pattern.compile("\\b" + word + "\\b").matcher(code).find());
        }
        for (String sign : new String[] {"->", "::", "@", "Exact(", "\""}) {
            Check.due("no " + sign, !code.contains(sign));
        }
        Matcher imports = Pattern.compile("import\\s+([^;]+);").matcher(code);
        while (imports.find()) {
            Check.due("import " + imports.group(1), imports.group(1).equals("java.util.ArrayList"));
        }
        Matcher maths = Pattern.compile("Math\\.(\\w+)").matcher(code);
        while (maths.find()) {
            Check.due("Math." + maths.group(1), List.of("max", "min", "floorMod").contains(maths.group(1)));
        }
        methodsAreShort(source);
    }

    private static void methodsAreShort(String source) {
        String[] lines = source.split("\n");
        int begin = -1;
        String indent = "";
        for (int i = 0; i < lines.length; i++) {
            Matcher head = Pattern.compile("^( {4}| {8})[a-zA-Z][^=;]*\\) \\{$").matcher(lines[i]);
            if (begin < 0 && head.find()) {
                begin = i;
                indent = head.group(1);
            } else if (begin >= 0 && lines[i].equals(indent + "}")) {
                Check.due("short: " + lines[begin], i - begin < 60);
                begin = -1;
            }
        }
    }
}

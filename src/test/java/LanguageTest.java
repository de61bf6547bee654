import java.io.IOException;
import java.lang.reflect.Field;
import java.lang.reflect.Method;
import java.lang.reflect.Modifier;
import java.nio.file.Files;
import java.nio.file.Path;
import java.util.ArrayList;
import java.util.List;
import java.util.Map;
import java.util.Set;
import java.util.TreeMap;
import java.util.TreeSet;
import java.util.regex.Matcher;
import java.util.regex.Pattern;

/** The rules of LANGUAGE.md that a program can look after; run it in the project's folder. */
final class LanguageTest {
    private static final int MOST_DEEP = 8;
    /** A method: how far it stands in, its name, what is in it. */
    private static final Pattern METHOD = Pattern.compile(
        "(?ms)^( {4}| {8})[A-Za-z][\\w\\[\\] ]*?(\\w+)\\([^)\n]*\\) \\{$(.*?)^\\1\\}$");
    private static final Due due = new Due("LanguageTest");
    private static final String[] FACE = {
        "int nodes(int)", "int vertex(int,int)", "int arc(int,int,int)", "int kind(int)",
        "int joined(boolean)", "int every(int)", "int start()", "int letter(int,int)",
        "long entry(int,int,int)", "int deliver(int)", "int lose(int)", "int copy(int)",
        "int resend(int,int)", "int crash(int)", "int back()", "int move(int,int)",
        "long of(int,int)", "long alone(int,int,int)", "int node(int,int)", "int told(int)"};

    public static void main(String[] args) throws IOException {
        face();
        classes();
        String text = Files.readString(Path.of("src/main/java/SplitNodes.java"));
        source(text);
        sections(text);
        methodsAreShort(text);
        callsAreNotDeep(text);
        due.end();
    }

    private static void face() {
        Class<?> c = SplitNodes.class;
        due.isTrue("1 public and final", Modifier.isPublic(c.getModifiers()) && Modifier.isFinal(c.getModifiers()));
        Set<String> found = new TreeSet<>();
        for (Method m : c.getDeclaredMethods()) {
            if (!Modifier.isPrivate(m.getModifiers())) {
                found.add(signature(m));
                due.isTrue("1 public: " + m, m.getModifiers() == Modifier.PUBLIC);
            }
        }
        due.isTrue("1 methods: " + found, found.equals(new TreeSet<>(List.of(FACE))));
        due.is("1 constructors", c.getDeclaredConstructors().length, 1);
        due.is("1 public constructors", c.getConstructors().length, 1);
        Set<String> constants = new TreeSet<>();
        for (Field f : c.getDeclaredFields()) {
            if (!Modifier.isPrivate(f.getModifiers())) {
                constants.add(f.getType() + " " + f.getName());
            }
        }
        due.isTrue("1 constants: " + constants,
            constants.equals(Set.of("int BAD", "int STATE", "int FULL", "long NONE")));
    }

    private static String signature(Method m) {
        List<String> types = new ArrayList<>();
        for (Class<?> type : m.getParameterTypes()) {
            types.add(type.getName());
        }
        return m.getReturnType() + " " + m.getName() + "(" + String.join(",", types) + ")";
    }

    private static void classes() {
        List<Class<?>> all = new ArrayList<>(List.of(SplitNodes.class));
        all.addAll(List.of(SplitNodes.class.getDeclaredClasses()));
        due.isTrue("11 at most twelve classes", all.size() <= 12);
        Set<String> publicNames = new TreeSet<>();
        for (Method m : SplitNodes.class.getMethods()) {
            publicNames.add(m.getName());
        }
        for (Class<?> c : all) {
            if (c != SplitNodes.class) {
                int mods = c.getModifiers();
                due.isTrue("1 private and static: " + c, Modifier.isPrivate(mods) && Modifier.isStatic(mods));
                due.is("2 no classes within: " + c, c.getDeclaredClasses().length, 0);
            }
            int fields = 0;
            for (Field f : c.getDeclaredFields()) {
                if (Modifier.isStatic(f.getModifiers())) {
                    due.isTrue("5 static fields are final: " + f, Modifier.isFinal(f.getModifiers()));
                } else {
                    fields++;
                }
            }
            due.isTrue("11 at most twenty fields: " + c, fields <= 20);
            for (Method m : c.getDeclaredMethods()) {
                due.isTrue("11 at most seven parameters: " + m, m.getParameterCount() <= 7);
                boolean ofTheFace = c == SplitNodes.class && Modifier.isPublic(m.getModifiers());
                due.isTrue("1 a name of the face: " + m, ofTheFace || !publicNames.contains(m.getName()));
            }
        }
    }

    private static void source(String text) {
        String code = text.replaceAll("(?s)/\\*.*?\\*/", "").replaceAll("//[^\n]*", "");
        String[] banned = {"throw", "throws", "try", "catch", "synchronized", "assert", "package",
            "double", "float", "Object", "System\\.(?!arraycopy)\\w+", "Math\\.\\w+Exact", "hashCode", "toString"};
        for (String word : banned) {
            absent(code, "\\b" + word + "\\b");
        }
        absent(code, "->");
        absent(code, "::");
        absent(code, "while \\(true\\)|for \\(;;\\)");
        absent(code, "\"");
        absent(code, "import (?!java\\.util\\.Arrays;)");
        due.isTrue("3 characters 0 to 255", text.chars().allMatch(ch -> ch <= 255));
    }

    /** The document: ahead of these calls the interface says so. */
    private static void sections(String text) {
        String[] inOrder = {"int start(", "// ---- the net\n", "int letter(", "int resend(",
            "// ---- nodes that fail\n", "int crash(", "int move(", "// ---- what there is\n", "long of(", "int told("};
        int at = 0;
        for (String part : inOrder) {
            int found = text.indexOf(part);
            due.isTrue("in its place: " + part.trim(), found > at);
            at = found;
        }
    }

    /** Methods of the class stand four spaces in, those of the classes inside it eight. */
    private static void methodsAreShort(String text) {
        for (String indent : new String[] {"    ", "        "}) {
            int begun = -1;
            String[] lines = text.split("\n");
            for (int i = 0; i < lines.length; i++) {
                if (lines[i].matches(indent + "[A-Za-z].*\\) \\{")) {
                    begun = i;
                } else if (lines[i].equals(indent + "}") && begun >= 0) {
                    due.isTrue("11 some sixty lines: " + lines[begun].trim(), i - begun < 60);
                    begun = -1;
                }
            }
        }
    }

    /** Methods of one name count as one, which can only make the calls look deeper than they are. */
    private static void callsAreNotDeep(String text) {
        Map<String, Set<String>> calls = callsByName(text);
        for (Method m : SplitNodes.class.getDeclaredMethods()) {
            due.isTrue("8, 11 read in the source: " + m.getName(), calls.containsKey(m.getName()));
            int deep = depth(m.getName(), calls, MOST_DEEP + 1);
            due.isTrue("8, 11 at most eight deep, no recursion: " + m.getName(), deep <= MOST_DEEP);
        }
    }

    private static Map<String, Set<String>> callsByName(String text) {
        Map<String, Set<String>> calls = new TreeMap<>();
        Matcher method = METHOD.matcher(text);
        while (method.find()) {
            Set<String> called = calls.computeIfAbsent(method.group(2), name -> new TreeSet<>());
            Matcher call = Pattern.compile("(\\w+)\\(").matcher(method.group(3));
            while (call.find()) {
                called.add(call.group(1));
            }
        }
        return calls;
    }

    /** How many calls stand open at once, the library's own too, looked at no deeper than a limit. */
    private static int depth(String name, Map<String, Set<String>> calls, int limit) {
        int below = 0;
        if (limit > 1) {
            for (String called : calls.getOrDefault(name, Set.of())) {
                below = Math.max(below, depth(called, calls, limit - 1));
            }
        }
        return 1 + below;
    }

    private static void absent(String code, String pattern) {
        Matcher m = Pattern.compile(pattern).matcher(code);
        due.isTrue("not in the source: " + pattern, !m.find());
    }
}

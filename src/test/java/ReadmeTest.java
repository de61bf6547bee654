import java.io.IOException;
import java.lang.reflect.Method;
import java.nio.file.Files;
import java.nio.file.Path;
import java.util.Set;
import java.util.TreeSet;
import java.util.regex.Matcher;
import java.util.regex.Pattern;

/** The examples in README.md answer what stands behind them; run it in the project's folder. */
final class ReadmeTest {
    private static final Due due = new Due("ReadmeTest");
    private static final Pattern CALL = Pattern.compile("\\s*x\\.(\\w+)\\(([^)]*)\\);(?:\\s*// (NONE|-?\\d+).*)?");
    private static final String NEW = "SplitNodes x = new SplitNodes();";
    private static final String UNTIL_EMPTY = "while (x.told(4) > 0) {";

    private final Set<String> called = new TreeSet<>();
    private SplitNodes x;
    private boolean again;

    public static void main(String[] args) throws IOException, ReflectiveOperationException {
        ReadmeTest test = new ReadmeTest();
        String readme = Files.readString(Path.of("README.md"));
        Matcher example = Pattern.compile("(?s)```java\n(.*?)```").matcher(readme);
        while (example.find()) {
            due.sentence("an example");
            for (String line : example.group(1).split("\n")) {
                test.run(line);
            }
        }
        test.everyCallIsShown(readme);
        due.end();
    }

    private void run(String line) throws ReflectiveOperationException {
        Matcher call = CALL.matcher(line);
        if (line.equals(NEW)) {
            x = new SplitNodes();
        } else if (line.equals(UNTIL_EMPTY)) {
            again = true;
        } else if (line.equals("}")) {
            again = false;
        } else if (call.matches()) {
            call(line, call.group(1), call.group(2), call.group(3));
        } else {
            due.isTrue("a line that can be run: " + line, false);
        }
    }

    private void call(String line, String name, String arguments, String answer) throws ReflectiveOperationException {
        called.add(name);
        // 512: an object is for no more.
        for (int i = 0; again && i < 512 && x.told(4) > 0; i++) {
            answerOf(name, arguments);
        }
        if (!again) {
            due.isTrue("an answer is told: " + line, answer != null);
            long want = "NONE".equals(answer) ? SplitNodes.NONE : Long.parseLong(answer == null ? "0" : answer);
            due.is(line.trim(), answerOf(name, arguments), want);
        }
    }

    private long answerOf(String name, String arguments) throws ReflectiveOperationException {
        String[] texts = arguments.isEmpty() ? new String[0] : arguments.split(", ");
        for (Method m : SplitNodes.class.getDeclaredMethods()) {
            if (m.getName().equals(name) && m.getParameterCount() == texts.length) {
                return ((Number) m.invoke(x, numbers(m, texts))).longValue();
            }
        }
        due.isTrue("there is such a call: " + name, false);
        return 0;
    }

    private static Object[] numbers(Method m, String[] texts) {
        Object[] numbers = new Object[texts.length];
        for (int i = 0; i < texts.length; i++) {
            boolean isTruth = m.getParameterTypes()[i] == boolean.class;
            numbers[i] = isTruth ? (Object) Boolean.valueOf(texts[i]) : (Object) Integer.valueOf(texts[i]);
        }
        return numbers;
    }

    private void everyCallIsShown(String readme) {
        due.sentence("how to use the class");
        due.isTrue("there are examples", called.size() > 10);
        for (Method m : SplitNodes.class.getMethods()) {
            if (m.getDeclaringClass() == SplitNodes.class) {
                due.isTrue("README tells of " + m.getName(), readme.contains("`" + m.getName() + "`"));
            }
        }
    }
}

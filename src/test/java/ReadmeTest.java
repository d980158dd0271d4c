import java.io.IOException;
import java.lang.reflect.Method;
import java.nio.file.Files;
import java.nio.file.Path;
import java.util.HashMap;
import java.util.Map;
import java.util.regex.Matcher;
import java.util.regex.Pattern;

/** The examples of README.md: each call there is made, and its answer held against the one that stands behind it. */
public final class ReadmeTest {
    private static final String BEGIN = "```java", END = "```", NEW_OBJECT = "Lostroom room = new Lostroom();";
    private static final Pattern CALL = Pattern.compile("(?:int (\\w+) = )?room\\.(\\w+)\\((.*)\\); +// (-?\\w+)(?:: .*)?");
    private static final Checks c = new Checks();
    private static final Map<String, Integer> numbers = new HashMap<>();
    private static Lostroom room;

    public static void main(String[] args) throws IOException, ReflectiveOperationException {
        boolean isExample = false;
        int calls = 0;
        for (String line : Files.readAllLines(Path.of("README.md"))) {
            c.promise("README.md: " + line);
            if (line.equals(BEGIN)) {
                isExample = true;
            } else if (line.equals(END)) {
                isExample = false;
            } else if (isExample && line.equals(NEW_OBJECT)) {
                room = new Lostroom();
                numbers.clear();
            } else if (isExample) {
                check(line);
                calls++;
            }
        }
        c.promise("README.md");
        c.is("there are examples", true, calls > 0);
        c.end();
    }

    private static void check(String line) throws ReflectiveOperationException {
        Matcher call = CALL.matcher(line);
        c.is("a call with its answer behind it", true, call.matches());
        if (!call.matches()) return;
        Method method = methodOf(call.group(2));
        Object answer = method.invoke(room, argumentsFor(method, call.group(3).split(", ")));
        c.isText("its answer", call.group(4), answer.toString());
        if (call.group(1) != null) numbers.put(call.group(1), (Integer) answer);
    }

    private static Method methodOf(String name) {
        for (Method method : Lostroom.class.getMethods()) if (method.getName().equals(name)) return method;
        throw new IllegalStateException(name);
    }

    private static Object[] argumentsFor(Method method, String[] texts) {
        Object[] arguments = new Object[texts.length];
        for (int i = 0; i < texts.length; i++) {
            boolean isTruth = method.getParameterTypes()[i] == boolean.class;
            if (isTruth) arguments[i] = Boolean.valueOf(texts[i]); else arguments[i] = numberOf(texts[i]);
        }
        return arguments;
    }

    private static int numberOf(String text) {
        if (numbers.containsKey(text)) return numbers.get(text);
        return text.startsWith("0b") ? Integer.parseInt(text.substring(2), 2) : Integer.parseInt(text);
    }
}

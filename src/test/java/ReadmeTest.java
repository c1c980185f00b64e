import java.io.File;
import java.io.IOException;
import java.lang.reflect.InvocationTargetException;
import java.lang.reflect.Method;
import java.lang.reflect.Modifier;
import java.nio.file.Files;
import java.nio.file.Path;
import java.util.HashMap;
import java.util.Map;
import java.util.Set;
import java.util.TreeSet;
import java.util.regex.Matcher;
import java.util.regex.Pattern;

/** README.md's example, call by call as it is written there; and that README.md leaves out no call and no test. */
public final class ReadmeTest {
    private static final Pattern EXAMPLE = Pattern.compile("(?s)```java\n(.*?)```");
    private static final Pattern CALL = Pattern.compile("(?:int (\\w+) = )?x\\.(\\w+)\\(([^()]*)\\); +// (.*)");
    private static final Pattern ANSWER = Pattern.compile("(throws \\w+|-?\\d+)(?:: .+)?");
    private static final String NEW_OBJECT = "RowLineage x = new RowLineage();";
    private static final String NO_ANSWER = "no answer";

    private static final Checks CHECKS = new Checks("ReadmeTest");

    private final Map<String, Method> face = new HashMap<>();
    private final Map<String, Long> variables = new HashMap<>();
    private final Set<String> called = new TreeSet<>();
    private RowLineage x;

    private ReadmeTest() {
        for (Method method : RowLineage.class.getDeclaredMethods()) {
            if (Modifier.isPublic(method.getModifiers())) {
                face.put(method.getName(), method);
            }
        }
        variables.put("true", 1L);
        variables.put("false", 0L);
        variables.put("RowLineage.NONE", (long) RowLineage.NONE);
    }

    public static void main(String[] args) throws IOException, IllegalAccessException {
        String readme = Files.readString(Path.of("README.md"));
        new ReadmeTest().playExample(readme);
        for (String name : new File("src/test/java").list()) {
            String told = "`" + name.replace(".java", "") + "`";
            CHECKS.due("README.md tells of " + told, readme.contains(told), true);
        }
        CHECKS.due("README.md tells of .ci/run", readme.contains("`.ci/run`"), true);
        CHECKS.end();
    }

    private void playExample(String readme) throws IllegalAccessException {
        Matcher example = EXAMPLE.matcher(readme);
        CHECKS.due("README.md has an example", example.find(), true);
        for (String line : example.group(1).split("\n")) {
            if (line.equals(NEW_OBJECT)) {
                x = new RowLineage();
            } else if (!line.isBlank()) {
                playLine(line);
            }
        }
        CHECKS.due("calls that the example makes", called, new TreeSet<>(face.keySet()));
        for (String name : face.keySet()) {
            CHECKS.due("the table tells of " + name, readme.contains("\n| `" + name + "("), true);
        }
    }

    private void playLine(String line) throws IllegalAccessException {
        Matcher call = CALL.matcher(line);
        boolean isCall = call.matches() && face.containsKey(call.group(2));
        CHECKS.due("a call with its answer: " + line, isCall, true);
        if (!isCall) {
            return;
        }
        Method method = face.get(call.group(2));
        String got = answer(method, call.group(3).isEmpty() ? new String[0] : call.group(3).split(", "));
        called.add(method.getName());
        Matcher told = ANSWER.matcher(call.group(4));
        CHECKS.due(line, got, told.matches() ? told.group(1) : NO_ANSWER);
        if (call.group(1) != null) {
            variables.put(call.group(1), Long.parseLong(got));
        }
    }

    private String answer(Method method, String[] written) throws IllegalAccessException {
        Class<?>[] types = method.getParameterTypes();
        CHECKS.due("arguments of " + method.getName(), written.length, types.length);
        Object[] values = new Object[types.length];
        for (int a = 0; a < types.length; a++) {
            values[a] = as(types[a], valueOf(written[a]));
        }
        try {
            Object answered = method.invoke(x, values);
            return method.getReturnType() == void.class ? NO_ANSWER : "" + answered;
        } catch (InvocationTargetException e) {
            return "throws " + e.getCause().getClass().getSimpleName();
        }
    }

    private long valueOf(String written) {
        return variables.containsKey(written) ? variables.get(written) : Long.parseLong(written.replace("L", ""));
    }

    private static Object as(Class<?> type, long value) {
        if (type == boolean.class) {
            return value != 0;
        }
        if (type == long.class) {
            return value;
        }
        return (int) value;
    }
}

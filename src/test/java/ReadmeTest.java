import java.io.IOException;
import java.lang.reflect.InvocationTargetException;
import java.lang.reflect.Method;
import java.lang.reflect.Modifier;
import java.nio.file.Files;
import java.nio.file.Path;
import java.util.HashMap;
import java.util.Map;
import java.util.Set;
import java.util.TreeSet;
import java.util.regex.Matcher;
import java.util.regex.Pattern;

/** Makes the calls that README.md shows; run from the project's folder. */
public final class ReadmeTest {
    private static final Path README = Path.of("README.md");
    private static final Pattern EXAMPLE = Pattern.compile("(?s)```java\n(.*?)```");
    private static final String MAKING = "ClaimTriangle claims = new ClaimTriangle();";
    private static final Pattern CALL = Pattern.compile("claims\\.(\\w+)\\((.*?)\\); +// (.+)");
    private static final Pattern THROWS = Pattern.compile("throws (\\w+).*");
    private static final Pattern ANSWER = Pattern.compile("(-?\\d+)\\b.*");
    private static final Pattern ROW = Pattern.compile("(?m)^\\| `(\\w+)\\((.*?)\\)` \\|");

    private static final Map<String, Method> FACE = new HashMap<>();

    public static void main(String[] args) throws IOException, IllegalAccessException {
        for (Method method : ClaimTriangle.class.getDeclaredMethods()) {
            if (Modifier.isPublic(method.getModifiers())) {
                FACE.put(method.getName(), method);
            }
        }
        String text = Files.readString(README);
        examples(text);
        table(text);
        Checks.end();
    }

    /** The examples go on with one object. */
    private static void examples(String text) throws IllegalAccessException {
        ClaimTriangle claims = new ClaimTriangle();
        Set<String> shown = new TreeSet<>();
        Matcher example = EXAMPLE.matcher(text);
        while (example.find()) {
            for (String line : example.group(1).split("\n")) {
                if (!line.equals(MAKING)) {
                    shown.add(call(claims, line));
                }
            }
        }
        Checks.same("the calls that the examples show", new TreeSet<>(FACE.keySet()), shown);
    }

    private static String call(ClaimTriangle claims, String line) throws IllegalAccessException {
        Matcher parts = CALL.matcher(line);
        if (!parts.matches() || !FACE.containsKey(parts.group(1))) {
            Checks.same(line, "a call of the face with a comment", "another line");
            return line;
        }
        Method method = FACE.get(parts.group(1));
        String got = outcome(method, claims, arguments(method, parts.group(2).split(", ")));
        Checks.same(line, due(method, parts.group(3)), got);
        return method.getName();
    }

    private static String due(Method method, String comment) {
        Matcher thrown = THROWS.matcher(comment);
        if (thrown.matches()) {
            return thrown.group(1);
        }
        if (method.getReturnType() == void.class) {
            return "nothing";
        }
        Matcher answer = ANSWER.matcher(comment);
        return answer.matches() ? answer.group(1) : "an answer in the comment";
    }

    private static String outcome(Method method, ClaimTriangle claims, Object[] values)
            throws IllegalAccessException {
        try {
            Object answer = method.invoke(claims, values);
            return method.getReturnType() == void.class ? "nothing" : answer.toString();
        } catch (InvocationTargetException thrown) {
            return thrown.getCause().getClass().getSimpleName();
        }
    }

    private static Object[] arguments(Method method, String[] written) {
        Class<?>[] types = method.getParameterTypes();
        Object[] values = new Object[written.length];
        for (int place = 0; place < values.length; place++) {
            boolean flag = types[place] == boolean.class;
            values[place] = flag ? (Object) Boolean.valueOf(written[place]) : Integer.valueOf(written[place]);
        }
        return values;
    }

    private static void table(String text) {
        Set<String> told = new TreeSet<>();
        Matcher row = ROW.matcher(text);
        while (row.find()) {
            told.add(row.group(1));
            Method method = FACE.get(row.group(1));
            int takes = method == null ? -1 : method.getParameterCount();
            Checks.same("how much " + row.group(1) + " takes", takes, row.group(2).split(", ").length);
        }
        Checks.same("the calls in the table", new TreeSet<>(FACE.keySet()), told);
    }
}

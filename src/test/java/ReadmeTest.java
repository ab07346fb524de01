import java.io.IOException;
import java.lang.reflect.Method;
import java.lang.reflect.Modifier;
import java.nio.file.Files;
import java.nio.file.Path;
import java.util.HashMap;
import java.util.HashSet;
import java.util.Map;
import java.util.Set;
import java.util.regex.Matcher;
import java.util.regex.Pattern;

/** README.md tells the truth: its calls are made as they stand there; run from the project's folder. */
public final class ReadmeTest {
    private static final Pattern EXAMPLE = Pattern.compile("(?s)```java\n(.*?)```");
    private static final Pattern CALL = Pattern.compile("(?:int (\\w+) = )?map\\.(\\w+)\\((.*?)\\); +// (-?\\d+)(:.*)?");
    private static final Pattern ROW = Pattern.compile("(?m)^\\| `(\\w+)\\((.*?)\\)` \\|");
    private static final Checks CHECKS = new Checks("ReadmeTest");

    private final TrackCrossings map = new TrackCrossings();
    private final Map<String, Long> named = new HashMap<>();
    private final Set<String> used = new HashSet<>();

    public static void main(String[] args) throws IOException, ReflectiveOperationException {
        String readme = Files.readString(Path.of("README.md"));
        new ReadmeTest().checkExample(readme);
        checkTable(readme);
        checkTestsAreNamed(readme);
        CHECKS.end();
    }

    private void checkExample(String readme) throws ReflectiveOperationException {
        Matcher example = EXAMPLE.matcher(readme);
        boolean isThere = example.find();
        CHECKS.holds("there is an example", isThere);
        if (!isThere) {
            return;
        }
        String[] lines = example.group(1).split("\n");
        CHECKS.holds("it makes the object", lines[0].equals("TrackCrossings map = new TrackCrossings();"));
        for (int i = 1; i < lines.length; i++) {
            Matcher call = CALL.matcher(lines[i]);
            boolean isCall = call.matches();
            CHECKS.holds("is a call with its answer: " + lines[i], isCall);
            if (isCall) {
                checkCall(call);
            }
        }
        for (Method method : TrackCrossings.class.getDeclaredMethods()) {
            if (Modifier.isPublic(method.getModifiers())) {
                CHECKS.holds("the example uses " + method.getName(), used.contains(method.getName()));
            }
        }
    }

    private void checkCall(Matcher call) throws ReflectiveOperationException {
        String name = call.group(2);
        Method method = methodOf(name);
        CHECKS.holds("there is a method " + name, method != null);
        if (method == null) {
            return;
        }
        used.add(name);
        long answer = ((Number) method.invoke(map, valuesOf(call.group(3)))).longValue();
        CHECKS.due(name + "(" + call.group(3) + ")", answer, Long.parseLong(call.group(4)));
        if (call.group(1) != null) {
            named.put(call.group(1), answer);
        }
    }

    private Object[] valuesOf(String written) {
        if (written.isEmpty()) {
            return new Object[0];
        }
        String[] words = written.split(", ");
        Object[] values = new Object[words.length];
        for (int i = 0; i < words.length; i++) {
            if (words[i].equals("true") || words[i].equals("false")) {
                values[i] = Boolean.valueOf(words[i]);
            } else if (named.containsKey(words[i])) {
                values[i] = named.get(words[i]).intValue();
            } else {
                boolean isNumber = words[i].matches("-?\\d{1,9}");
                CHECKS.holds("is a number or a name made before: " + words[i], isNumber);
                values[i] = isNumber ? Integer.parseInt(words[i]) : 0;
            }
        }
        return values;
    }

    private static void checkTable(String readme) {
        Set<String> rows = new HashSet<>();
        Matcher row = ROW.matcher(readme);
        while (row.find()) {
            Method method = methodOf(row.group(1));
            int words = row.group(2).isEmpty() ? 0 : row.group(2).split(", ").length;
            CHECKS.holds("the row of " + row.group(1) + " has its parameters",
                method != null && method.getParameterCount() == words);
            rows.add(row.group(1));
        }
        for (Method method : TrackCrossings.class.getDeclaredMethods()) {
            if (Modifier.isPublic(method.getModifiers())) {
                CHECKS.holds("the table has " + method.getName(), rows.contains(method.getName()));
            }
        }
    }

    private static void checkTestsAreNamed(String readme) throws IOException {
        try (var files = Files.list(Path.of("src/test/java"))) {
            files.map(file -> file.getFileName().toString()).filter(name -> name.endsWith("Test.java"))
                .map(name -> name.substring(0, name.length() - ".java".length()))
                .forEach(name -> CHECKS.holds("it names " + name, readme.contains("`" + name + "`")));
        }
        CHECKS.holds("it names .ci/run", readme.contains(".ci/run"));
    }

    private static Method methodOf(String name) {
        for (Method method : TrackCrossings.class.getMethods()) {
            if (method.getDeclaringClass() == TrackCrossings.class && method.getName().equals(name)) {
                return method;
            }
        }
        return null;
    }
}

import java.io.IOException;
import java.lang.reflect.InvocationTargetException;
import java.lang.reflect.Method;
import java.lang.reflect.Modifier;
import java.nio.file.Files;
import java.nio.file.Path;
import java.util.List;
import java.util.Map;
import java.util.Set;
import java.util.TreeMap;
import java.util.TreeSet;
import java.util.regex.Matcher;
import java.util.regex.Pattern;
import java.util.stream.Stream;

/** What README.md says is so: its run of calls, and the tests that it names. */
public final class ReadmeTest {
    private static final Pattern CALL =
        Pattern.compile("x\\.(\\w+)\\(([^)]*)\\);\\s+// (-?\\d+|NONE|BAD|FULL)(:.*)?");
    private static final Map<String, Integer> REFUSALS =
        Map.of("NONE", NextPaths.NONE, "BAD", NextPaths.BAD, "FULL", NextPaths.FULL);

    public static void main(String[] args) throws IOException, ReflectiveOperationException {
        String readme = Files.readString(Path.of("README.md"));
        runCalls(readme);
        namesEachTest(readme);
        Check.end();
    }

    private static void isTrue(String what, boolean holds) {
        Check.due(what + ", 1 if so", holds ? 1 : 0, 1);
    }

    private static Map<String, Method> methods() {
        Map<String, Method> found = new TreeMap<>();
        for (Method method : NextPaths.class.getDeclaredMethods()) {
            if (Modifier.isPublic(method.getModifiers())) {
                found.put(method.getName(), method);
            }
        }
        return found;
    }

    private static void runCalls(String readme) throws ReflectiveOperationException {
        String[] parts = readme.split("```java\n|```\n");
        isTrue("one run of calls", parts.length == 3);
        List<String> lines = parts[1].lines().toList();
        isTrue("it begins with a new object", lines.get(0).equals("NextPaths x = new NextPaths();"));
        NextPaths x = new NextPaths();
        Map<String, Method> methods = methods();
        Set<String> called = new TreeSet<>();
        for (String line : lines.subList(1, lines.size())) {
            Matcher call = CALL.matcher(line);
            boolean isCall = call.matches() && methods.containsKey(call.group(1));
            isTrue("a call with its answer: " + line, isCall);
            if (isCall) {
                called.add(call.group(1));
                Check.due(line, answer(x, methods.get(call.group(1)), call.group(2)), numberOf(call.group(3)));
            }
        }
        isTrue("every method is called, not only " + called, called.equals(methods.keySet()));
    }

    private static int numberOf(String answer) {
        return REFUSALS.containsKey(answer) ? REFUSALS.get(answer) : Integer.parseInt(answer);
    }

    private static int answer(NextPaths x, Method method, String numbers)
            throws IllegalAccessException, InvocationTargetException {
        String[] words = numbers.isEmpty() ? new String[0] : numbers.split(", ");
        Object[] given = new Object[words.length];
        for (int i = 0; i < words.length; i++) {
            boolean isTruth = method.getParameterTypes()[i] == boolean.class;
            given[i] = isTruth ? (Object) Boolean.valueOf(words[i]) : (Object) Integer.valueOf(words[i]);
        }
        return (int) method.invoke(x, given);
    }

    private static void namesEachTest(String readme) throws IOException {
        Set<String> files = new TreeSet<>();
        try (Stream<Path> all = Files.list(Path.of("src/test/java"))) {
            all.forEach(file -> files.add(file.getFileName().toString().replace(".java", "")));
        }
        for (String file : files) {
            isTrue("README.md names " + file, readme.contains("`" + file + "`"));
        }
        Matcher named = Pattern.compile("`(\\w+Test)`").matcher(readme);
        while (named.find()) {
            isTrue("there is a test " + named.group(1), files.contains(named.group(1)));
        }
    }
}

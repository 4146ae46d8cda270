import java.io.IOException;
import java.lang.reflect.InvocationTargetException;
import java.lang.reflect.Method;
import java.lang.reflect.Modifier;
import java.nio.file.Files;
import java.nio.file.Path;
import java.util.ArrayList;
import java.util.HashMap;
import java.util.List;
import java.util.Map;
import java.util.Set;
import java.util.TreeSet;
import java.util.regex.Matcher;
import java.util.regex.Pattern;

/**
 * The example in README.md gives the answers that README.md says. Its lines are read and called
 * here, so that the example can't say one thing and the test another.
 */
public final class ReadmeTest {
    private static final String START = "QuoteGraph graph = new QuoteGraph();";
    /** A call and, behind it, its answer; what follows a colon is for the reader. */
    private static final Pattern CALL = Pattern.compile(
            "(?:int (\\w+) = )?graph\\.(\\w+)\\(([^()]*)\\); +// ([^:]+)(?:: .+)?");

    private final Check check = new Check();
    private final QuoteGraph graph = new QuoteGraph();
    private final Map<String, Integer> numbers = new HashMap<>();
    private final Map<String, Method> face = new HashMap<>();
    private final Set<String> shown = new TreeSet<>();

    public static void main(String[] args) throws IOException {
        ReadmeTest test = new ReadmeTest();
        test.check.holds("README.md", "How to use it");
        test.runExample(exampleIn(Files.readAllLines(Path.of("README.md"))));
        test.check.end();
    }

    private ReadmeTest() {
        for (Method method : QuoteGraph.class.getDeclaredMethods()) {
            if (Modifier.isPublic(method.getModifiers())) {
                face.put(method.getName(), method);
            }
        }
    }

    /** The lines of code, without those that are empty or comments alone. */
    private static List<String> exampleIn(List<String> readme) {
        List<String> lines = new ArrayList<>();
        boolean inside = false;
        for (String line : readme) {
            if (line.startsWith("```")) {
                inside = line.equals("```java");
            } else if (inside && !line.isBlank() && !line.startsWith("//")) {
                lines.add(line);
            }
        }
        return lines;
    }

    private void runExample(List<String> lines) {
        check.same("the example's first line", lines.isEmpty() ? "" : lines.get(0), START);
        for (String line : lines.subList(Math.min(1, lines.size()), lines.size())) {
            Matcher call = CALL.matcher(line);
            boolean readable = call.matches() && face.containsKey(call.group(2));
            check.same("'" + line + "' can be read", readable, true);
            if (readable) {
                runLine(line, call);
            }
        }
        check.same("the methods shown", shown.toString(), new TreeSet<>(face.keySet()).toString());
    }

    private void runLine(String line, Matcher call) {
        Method method = face.get(call.group(2));
        shown.add(method.getName());
        Object answer = answerOf(method, call.group(3));
        check.same("'" + line + "'", String.valueOf(answer), call.group(4).trim());
        String made = call.group(1);
        if (made != null) {
            check.same("'" + line + "' answers an int", answer instanceof Integer, true);
            check.same("'" + line + "' has a new name", numbers.containsKey(made), false);
            numbers.put(made, answer instanceof Integer number ? number : -1);
        }
    }

    private Object answerOf(Method method, String written) {
        String[] given = written.split(", ");
        Class<?>[] types = method.getParameterTypes();
        if (given.length != types.length) {
            return "with another number of arguments";
        }
        Object[] arguments = new Object[types.length];
        for (int i = 0; i < types.length; i++) {
            arguments[i] = argumentOf(types[i], given[i]);
        }
        try {
            Object answer = method.invoke(graph, arguments);
            return method.getReturnType() == void.class ? "nothing" : answer;
        } catch (InvocationTargetException e) {
            return "throws " + e.getCause().getClass().getSimpleName();
        } catch (IllegalAccessException e) {
            return "hidden";
        }
    }

    private Object argumentOf(Class<?> type, String given) {
        if (type == boolean.class) {
            check.same("'" + given + "' is true or false", given.matches("true|false"), true);
            return Boolean.valueOf(given);
        }
        if (type == double.class) {
            return Double.valueOf(given);
        }
        return numbers.containsKey(given) ? numbers.get(given) : Integer.valueOf(given);
    }
}

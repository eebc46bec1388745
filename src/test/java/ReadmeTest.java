import java.io.IOException;
import java.lang.reflect.Method;
import java.lang.reflect.Modifier;
import java.nio.file.Files;
import java.nio.file.Path;
import java.util.ArrayList;
import java.util.HashMap;
import java.util.List;
import java.util.Map;
import java.util.regex.Matcher;
import java.util.regex.Pattern;

/** README.md's example answers as its comments say, and its table has each call of the class. */
public final class ReadmeTest extends Checks {
    private static final String MAKING = "SortingLine line = new SortingLine();";
    private static final Pattern CALL =
        Pattern.compile("(?:int (\\w+) = )?line\\.(\\w+)\\((.*)\\); +// (-?\\d+)(?::.*)?");

    public static void main(String[] args) throws IOException, ReflectiveOperationException {
        List<String> readme = Files.readAllLines(Path.of("README.md"));
        exampleAnswersAsItsCommentsSay(exampleOf(readme));
        tableHasEachCall(readme);
        finish();
    }

    private static List<String> exampleOf(List<String> readme) {
        List<String> example = new ArrayList<>();
        int start = readme.indexOf("```java");
        for (int at = start + 1; start >= 0 && at < readme.size() && !readme.get(at).equals("```"); at++) {
            example.add(readme.get(at));
        }
        return example;
    }

    private static void exampleAnswersAsItsCommentsSay(List<String> example) throws ReflectiveOperationException {
        if (example.size() < 2 || !example.get(0).equals(MAKING)) {
            tell("README.md has no example that begins with " + MAKING);
            return;
        }
        SortingLine line = new SortingLine();
        Map<String, Integer> names = new HashMap<>();
        for (String row : example.subList(1, example.size())) {
            Matcher call = CALL.matcher(row);
            if (!call.matches()) {
                tell("README.md's example has a line that is no call with its answer: " + row);
                continue;
            }
            long got = answerOf(line, call.group(2), numbersOf(call.group(3), names));
            if (got != Long.parseLong(call.group(4))) {
                tell("README.md's example answers " + got + ": " + row);
            }
            if (call.group(1) != null) {
                names.put(call.group(1), (int) got);
            }
        }
    }

    private static Object[] numbersOf(String arguments, Map<String, Integer> names) {
        if (arguments.isEmpty()) {
            return new Object[0];
        }
        List<Object> numbers = new ArrayList<>();
        for (String argument : arguments.split(", ")) {
            Integer named = names.get(argument);
            numbers.add(named != null ? named : Integer.valueOf(argument));
        }
        return numbers.toArray();
    }

    private static long answerOf(SortingLine line, String name, Object[] arguments)
            throws ReflectiveOperationException {
        for (Method method : SortingLine.class.getDeclaredMethods()) {
            if (method.getName().equals(name) && method.getParameterCount() == arguments.length) {
                return ((Number) method.invoke(line, arguments)).longValue();
            }
        }
        throw new NoSuchMethodException(name);
    }

    private static void tableHasEachCall(List<String> readme) {
        for (Method method : SortingLine.class.getDeclaredMethods()) {
            if (Modifier.isPublic(method.getModifiers()) && !hasRowFor(readme, method)) {
                tell("README.md's table has no row for " + method.getName() + " with its parameters");
            }
        }
    }

    private static boolean hasRowFor(List<String> readme, Method method) {
        String start = "| `" + method.getName() + "(";
        for (String row : readme) {
            if (row.startsWith(start) && row.contains(")` |")) {
                String parameters = row.substring(start.length(), row.indexOf(")` |"));
                int many = parameters.isEmpty() ? 0 : parameters.split(", ").length;
                return many == method.getParameterCount();
            }
        }
        return false;
    }
}

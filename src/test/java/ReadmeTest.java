import java.io.IOException;
import java.lang.reflect.InvocationTargetException;
import java.lang.reflect.Method;
import java.nio.file.Files;
import java.nio.file.Path;
import java.util.ArrayList;
import java.util.HashMap;
import java.util.List;
import java.util.Map;
import java.util.Set;
import java.util.TreeSet;
import java.util.regex.Matcher;
import java.util.regex.Pattern;

/** Makes the calls of README.md's examples, and looks at the answers that stand behind them. */
public final class ReadmeTest {
    private static final Path README = Path.of("README.md");
    private static final Path DOCUMENT = Path.of("../shared/DOC.md");

    private static final String MADE = "WellField field = new WellField();";
    private static final Pattern BLOCK = Pattern.compile("(?s)```java\n(.*?)```");
    private static final Pattern EXAMPLE = Pattern.compile(
            "(?:(int|long) (\\w+) = )?field\\.(\\w+)\\(([\\w, ]*)\\); +// (throws \\w+|NONE|-?\\d+)\\b.*");
    private static final Pattern GROUP = Pattern.compile(
            "Ahead of the calls ([^\n]*) the interface says: ---- ([^\n]*)\\.\n");

    private final Checks check = new Checks();
    private final Map<String, Integer> numbers = new HashMap<>();
    private WellField field;

    public static void main(String[] args) throws IOException {
        new ReadmeTest().all();
    }

    private void all() throws IOException {
        String readme = Files.readString(README);
        Map<String, Set<String>> called = new HashMap<>();
        for (String part : readme.split("(?m)^##+ ")) {
            String title = part.lines().findFirst().orElse("").strip().toLowerCase();
            Matcher block = BLOCK.matcher(part);
            while (block.find()) {
                for (String line : block.group(1).split("\n")) {
                    example(line.strip(), called.computeIfAbsent(title, t -> new TreeSet<>()));
                }
            }
        }
        Matcher group = GROUP.matcher(Files.readString(DOCUMENT));
        int groups = 0;
        while (group.find()) {
            groups++;
            eachIsCalled(group.group(2), group.group(1), called.getOrDefault(group.group(2), Set.of()));
        }
        check.due("groups of calls that the document names", 5, groups);
        check.end();
    }

    private void eachIsCalled(String title, String calls, Set<String> called) {
        for (String call : calls.split("[`, ]+")) {
            if (!call.isEmpty()) {
                check.holds("an example of " + call + " under " + title, called.contains(call));
            }
        }
    }

    private void example(String line, Set<String> called) {
        if (line.equals(MADE)) {
            field = new WellField();
            return;
        }
        Matcher example = EXAMPLE.matcher(line);
        if (field == null || !example.matches()) {
            check.tell("README.md, not an example with its answer: " + line);
            return;
        }
        called.add(example.group(3));
        String got = answerOf(example.group(3), example.group(4), example.group(1));
        String due = example.group(5).equals("NONE") ? String.valueOf(WellField.NONE) : example.group(5);
        check.holds("README.md, " + line + " (answered " + got + ")", got.equals(due));
        if (example.group(2) != null && got.matches("\\d+")) {
            numbers.put(example.group(2), Integer.parseInt(got));
        }
    }

    /** The answer, or "throws" with the exception's name; of a call that would not compile, what is wrong. */
    private String answerOf(String name, String arguments, String kept) {
        List<Object> given = new ArrayList<>();
        for (String argument : arguments.isEmpty() ? new String[0] : arguments.split(", ")) {
            Integer number = argument.matches("-?\\d+") ? Integer.valueOf(argument) : numbers.get(argument);
            if (number == null) {
                return "an unknown name, " + argument;
            }
            given.add(number);
        }
        for (Method method : WellField.class.getMethods()) {
            boolean wide = method.getReturnType() == long.class;
            if (method.getName().equals(name) && method.getParameterCount() == given.size()
                    && !(wide && "int".equals(kept))) {
                return answerOf(method, given);
            }
        }
        return "no such call";
    }

    private String answerOf(Method method, List<Object> given) {
        try {
            return String.valueOf(method.invoke(field, given.toArray()));
        } catch (InvocationTargetException e) {
            return "throws " + e.getCause().getClass().getSimpleName();
        } catch (IllegalAccessException e) {
            return "not to be called";
        }
    }
}

import java.io.IOException;
import java.lang.reflect.Field;
import java.lang.reflect.Method;
import java.lang.reflect.Modifier;
import java.nio.file.Files;
import java.nio.file.Path;
import java.util.List;
import java.util.Set;
import java.util.TreeSet;
import java.util.regex.Matcher;
import java.util.regex.Pattern;

/** What of the rules of ../shared/LANGUAGE.md can be seen in the source of the class and in the class itself. */
public final class LanguageTest {
    private static final Path SOURCE = Path.of("src/main/java/WellField.java");

    private static final Set<String> EXCEPTIONS = Set.of("IllegalStateException", "IllegalArgumentException",
            "IndexOutOfBoundsException", "ArithmeticException", "UnsupportedOperationException",
            "NoSuchElementException", "RuntimeException");
    private static final Set<String> LIBRARY = Set.of("String", "StringBuilder", "ArrayList", "List", "Integer",
            "Long", "Math", "Iterator", "Iterable", "Comparable", "System", "Arrays");
    private static final Set<String> NOT_TO_BE_CAUGHT = Set.of("ArithmeticException", "IndexOutOfBoundsException",
            "RuntimeException");

    private static final int LINES_MOST = 60;
    private static final int PARAMETERS_MOST = 7;
    private static final int FIELDS_MOST = 20;
    private static final int CLASSES_MOST = 12;

    private static final Checks CHECK = new Checks();

    public static void main(String[] args) throws IOException {
        String source = Files.readString(SOURCE);
        String code = withoutTexts(source);
        Set<String> own = ownNames(code);
        none("rule 1, a package line", code, "(?m)^\\s*package\\b");
        none("rule 2, a lambda or a method reference", code, "->|::");
        none("rule 6, a word that is ruled out", code, "\\b(finally|synchronized|assert)\\b");
        none("rule 4, a function that ends in Exact", code, "\\b\\w+Exact\\b");
        none("rule 5, a static initialiser block", code, "\\bstatic\\s*\\{");
        privateNames();
        library(code, own);
        fields();
        exceptions(code);
        none("rule 6, a throw in the constructor", between(code, "public WellField() {", "\n    }\n"), "\\bthrow\\b");
        sizes(source);
        CHECK.end();
    }

    private static String withoutTexts(String source) {
        return source.replaceAll("\"(\\\\.|[^\"\\\\])*\"", "\"\"").replaceAll("'(\\\\.|[^'\\\\])'", "' '")
                .replaceAll("(?s)/\\*.*?\\*/", " ").replaceAll("//[^\n]*", "");
    }

    private static Set<String> ownNames(String code) {
        Set<String> own = new TreeSet<>();
        Matcher name = Pattern.compile("\\b(?:class|interface|record|enum)\\s+(\\w+)").matcher(code);
        while (name.find()) {
            own.add(name.group(1));
        }
        return own;
    }

    private static void none(String what, String code, String pattern) {
        CHECK.due(what, 0, Pattern.compile(pattern).matcher(code).results().count());
    }

    private static String between(String code, String start, String end) {
        int from = code.indexOf(start);
        int to = code.indexOf(end, Math.max(0, from));
        CHECK.holds("found: " + start, from >= 0 && to > from);
        return from >= 0 && to > from ? code.substring(from, to) : "";
    }

    private static void privateNames() {
        Set<String> hidden = new TreeSet<>();
        Set<String> open = new TreeSet<>();
        for (Method method : WellField.class.getDeclaredMethods()) {
            (Modifier.isPrivate(method.getModifiers()) ? hidden : open).add(method.getName());
        }
        hidden.retainAll(open);
        CHECK.due("rule 1, private methods that bear the name of a public one: " + hidden, 0, hidden.size());
    }

    /** Names of classes are those with a small letter in them; constants have none. */
    private static void library(String code, Set<String> own) {
        Matcher name = Pattern.compile("\\b[A-Z]\\w*[a-z]\\w*\\b").matcher(code);
        while (name.find()) {
            String found = name.group();
            boolean allowed = own.contains(found) || LIBRARY.contains(found) || EXCEPTIONS.contains(found);
            CHECK.holds("rule 4, the name " + found, allowed);
        }
    }

    private static void fields() {
        for (Field field : WellField.class.getDeclaredFields()) {
            boolean right = !Modifier.isStatic(field.getModifiers()) || Modifier.isFinal(field.getModifiers());
            CHECK.holds("rule 5, final: " + field.getName(), right);
            Class<?> type = field.getType();
            while (type.isArray()) {
                type = type.getComponentType();
            }
            boolean known = type.isPrimitive() || type == String.class || type == StringBuilder.class
                    || List.class.isAssignableFrom(type) || type.getNestHost() == WellField.class;
            CHECK.holds("rule 3, the type of " + field.getName(), known);
        }
    }

    private static void exceptions(String code) {
        Matcher thrown = Pattern.compile("\\bthrow\\b\\s*(?:new\\s+(\\w+)\\s*\\(\\s*(?:\"\")?\\s*\\))?").matcher(code);
        while (thrown.find()) {
            boolean written = thrown.group(1) != null && EXCEPTIONS.contains(thrown.group(1));
            CHECK.holds("rule 6, a throw with a written text: " + thrown.group(), written);
        }
        Matcher caught = Pattern.compile("\\bcatch\\s*\\(([^)]*)\\)").matcher(code);
        while (caught.find()) {
            for (String name : caught.group(1).split("\\W+")) {
                CHECK.holds("what the machine throws is not caught: " + name, !NOT_TO_BE_CAUGHT.contains(name));
            }
        }
    }

    private static void sizes(String source) {
        Matcher body = Pattern.compile("(?ms)^    (?:public|private)[^;=]*?\\{\n.*?^    \\}").matcher(source);
        while (body.find()) {
            long lines = body.group().lines().count();
            String first = body.group().substring(0, body.group().indexOf('\n'));
            CHECK.holds("rule 11, short: " + first, lines <= LINES_MOST);
        }
        int fields = 0;
        for (Field field : WellField.class.getDeclaredFields()) {
            fields += Modifier.isStatic(field.getModifiers()) ? 0 : 1;
        }
        CHECK.holds("rule 11, fields beside constants: " + fields, fields <= FIELDS_MOST);
        for (Method method : WellField.class.getDeclaredMethods()) {
            boolean few = method.getParameterCount() <= PARAMETERS_MOST;
            CHECK.holds("rule 11, parameters of " + method.getName(), few);
        }
        int classes = 1 + WellField.class.getDeclaredClasses().length;
        CHECK.holds("rule 11, classes: " + classes, classes <= CLASSES_MOST);
    }
}

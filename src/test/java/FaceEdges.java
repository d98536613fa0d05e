import java.io.IOException;
import java.lang.reflect.Constructor;
import java.lang.reflect.Executable;
import java.lang.reflect.Field;
import java.lang.reflect.Method;
import java.lang.reflect.Modifier;
import java.lang.reflect.Parameter;
import java.nio.file.Files;
import java.nio.file.Path;
import java.util.ArrayList;
import java.util.Collections;
import java.util.HashSet;
import java.util.List;
import java.util.Set;
import java.util.regex.Matcher;
import java.util.regex.Pattern;

/** 'The public face', the signature that each promise begins with, and the order of the interface. */
final class FaceEdges extends Edges {
    private static final Path SOURCE = Path.of("src/main/java/WellField.java");
    private static final Pattern PUBLIC_METHOD = Pattern.compile("(?m)^    public (?:int|long) (\\w+)\\(");

    private static final String CONSTANT = "public static final int NONE = -1;";

    /** Each promise by its title, with its signature. */
    private static final String[][] PROMISES = {
        {"1: A new object", "WellField()"},
        {"2: well", "int well(int place, int zone, int licence) "
                + "throws IllegalArgumentException, IllegalStateException"},
        {"3: watch", "int watch(int place, int limit) throws IllegalArgumentException, IllegalStateException"},
        {"4: response", "int response(int reach, int delay, int response) "
                + "throws IndexOutOfBoundsException, IllegalArgumentException"},
        {"5: wells", "int wells()"},
        {"6: watches", "int watches()"},
        {"7: pump", "int pump(int well, int month, int units) "
                + "throws IndexOutOfBoundsException, IllegalArgumentException"},
        {"8: rest", "int rest(int well, int month, int months) "
                + "throws IndexOutOfBoundsException, IllegalArgumentException"},
        {"9: pumped", "int pumped(int well, int year) throws IndexOutOfBoundsException"},
        {"10: beyond", "int beyond(int year) throws IndexOutOfBoundsException"},
        {"11: drawdown", "long drawdown(int watch, int month) throws IndexOutOfBoundsException"},
        {"12: drawdownByPulses", "long drawdownByPulses(int watch, int month) throws IndexOutOfBoundsException"},
        {"13: worstMonth", "int worstMonth(int watch) throws IndexOutOfBoundsException"},
        {"14: over", "int over(int watch) throws IndexOutOfBoundsException"},
        {"15: headroom", "int headroom(int well, int month) throws IndexOutOfBoundsException"},
        {"16: heaviest", "int heaviest(int watch, int month) throws IndexOutOfBoundsException"},
        {"17: taken", "int taken(int year) throws IndexOutOfBoundsException"},
        {"18: takenLate", "int takenLate(int well, int year) throws IndexOutOfBoundsException"},
        {"19: licence", "int licence(int well) throws IndexOutOfBoundsException"},
        {"20: ratio", "int ratio(int from, int to, int ratio) "
                + "throws IndexOutOfBoundsException, IllegalArgumentException"},
        {"21: burden", "long burden(int watch) throws IndexOutOfBoundsException"},
        {"22: trade", "int trade(int from, int to, int units) "
                + "throws IndexOutOfBoundsException, IllegalArgumentException, IllegalStateException"},
        {"23: mostTraded", "int mostTraded(int from, int to) "
                + "throws IndexOutOfBoundsException, IllegalArgumentException"},
    };

    private final List<String> seen = seen();

    FaceEdges(Sentences sentences) {
        super(sentences);
    }

    @Override
    void all() {
        section("The public face");
        holds("```java public final class WellField {", this::publicAndFinal);
        holds(CONSTANT, () -> onceInTheFace(CONSTANT));
        for (String[] promise : PROMISES) {
            holds("public " + promise[1] + ";", () -> onceInTheFace("public " + promise[1] + ";"));
        }
        holds("} ```", this::nothingElse);
        for (String[] promise : PROMISES) {
            section("Promise " + promise[0]);
            holds("`" + promise[1] + "`", () -> onceInTheFace("public " + promise[1] + ";"));
        }
        section("Terms");
        groups();
    }

    private void groups() {
        holds("Ahead of the calls `well`, `watch`, `response`, `wells`, `watches` the interface says: "
                + "---- the field.",
                () -> ahead("the field", "well", "watch", "response", "wells", "watches"));
        holds("Ahead of the calls `pump`, `rest`, `pumped`, `beyond` the interface says: ---- pumping.",
                () -> ahead("pumping", "pump", "rest", "pumped", "beyond"));
        holds("Ahead of the calls `drawdown`, `drawdownByPulses`, `worstMonth`, `over`, `headroom`, `heaviest` "
                + "the interface says: ---- drawdown.",
                () -> ahead("drawdown", "drawdown", "drawdownByPulses", "worstMonth", "over", "headroom",
                        "heaviest"));
        holds("Ahead of the calls `taken`, `takenLate` the interface says: ---- the stream.",
                () -> ahead("the stream", "taken", "takenLate"));
        holds("Ahead of the calls `licence`, `ratio`, `burden`, `trade`, `mostTraded` the interface says: "
                + "---- licences.",
                () -> ahead("licences", "licence", "ratio", "burden", "trade", "mostTraded"));
    }

    private void publicAndFinal() {
        int modifiers = WellField.class.getModifiers();
        due("public", 1, Modifier.isPublic(modifiers) ? 1 : 0);
        due("final", 1, Modifier.isFinal(modifiers) ? 1 : 0);
        due("without a package", 1, WellField.class.getName().equals("WellField") ? 1 : 0);
        due("no class above it", 1, WellField.class.getSuperclass() == Object.class ? 1 : 0);
    }

    private void onceInTheFace(String line) {
        due("in the face: " + line, 1, Collections.frequency(seen, line));
    }

    private void nothingElse() {
        Set<String> document = new HashSet<>();
        document.add(CONSTANT);
        for (String[] promise : PROMISES) {
            document.add("public " + promise[1] + ";");
        }
        for (String line : seen) {
            due("in the document: " + line, 1, document.contains(line) ? 1 : 0);
        }
    }

    /** All of the class that is not private, in the document's way to write it. */
    private static List<String> seen() {
        List<String> lines = new ArrayList<>();
        for (Field field : WellField.class.getDeclaredFields()) {
            if (!Modifier.isPrivate(field.getModifiers())) {
                lines.add(Modifier.toString(field.getModifiers()) + " " + field.getType().getSimpleName() + " "
                        + field.getName() + " = " + valueOf(field) + ";");
            }
        }
        for (Constructor<?> made : WellField.class.getDeclaredConstructors()) {
            if (!Modifier.isPrivate(made.getModifiers())) {
                lines.add(Modifier.toString(made.getModifiers()) + " WellField" + tail(made));
            }
        }
        for (Method method : WellField.class.getDeclaredMethods()) {
            if (!Modifier.isPrivate(method.getModifiers())) {
                lines.add(Modifier.toString(method.getModifiers()) + " " + method.getReturnType().getSimpleName()
                        + " " + method.getName() + tail(method));
            }
        }
        return lines;
    }

    private static String valueOf(Field field) {
        if (!Modifier.isStatic(field.getModifiers())) {
            return "of each object";
        }
        try {
            return String.valueOf(field.get(null));
        } catch (IllegalAccessException e) {
            return "not to be read";
        }
    }

    /** The names of the arguments are there as .ci/run compiles the class with -parameters. */
    private static String tail(Executable of) {
        List<String> arguments = new ArrayList<>();
        for (Parameter argument : of.getParameters()) {
            arguments.add(argument.getType().getSimpleName() + " " + argument.getName());
        }
        List<String> exceptions = new ArrayList<>();
        for (Class<?> type : of.getExceptionTypes()) {
            exceptions.add(type.getSimpleName());
        }
        return "(" + String.join(", ", arguments) + ")"
                + (exceptions.isEmpty() ? "" : " throws " + String.join(", ", exceptions)) + ";";
    }

    private void ahead(String title, String... calls) {
        List<String> found = new ArrayList<>();
        for (String part : source().split("(?m)^    // ---- ")) {
            if (part.startsWith(title + "\n")) {
                Matcher method = PUBLIC_METHOD.matcher(part);
                while (method.find()) {
                    found.add(method.group(1));
                }
            }
        }
        due("calls behind '---- " + title + "', " + found, 1, found.equals(List.of(calls)) ? 1 : 0);
    }

    private static String source() {
        try {
            return Files.readString(SOURCE);
        } catch (IOException e) {
            return "";
        }
    }
}

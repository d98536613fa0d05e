import java.lang.reflect.Constructor;
import java.lang.reflect.Executable;
import java.lang.reflect.Field;
import java.lang.reflect.Method;
import java.lang.reflect.Modifier;
import java.util.Set;
import java.util.TreeSet;

/** The public face of the class: just what the document tells, and nothing else to be seen. */
public final class FaceTest {
    private static final String INDEX = "IndexOutOfBoundsException";
    private static final String ARGUMENT = "IllegalArgumentException";
    private static final String STATE = "IllegalStateException";

    private static final Set<String> FACE = Set.of(
            "WellField()",
            "int NONE",
            "int well(int,int,int)" + ARGUMENT + STATE,
            "int watch(int,int)" + ARGUMENT + STATE,
            "int response(int,int,int)" + INDEX + ARGUMENT,
            "int wells()",
            "int watches()",
            "int pump(int,int,int)" + INDEX + ARGUMENT,
            "int rest(int,int,int)" + INDEX + ARGUMENT,
            "int pumped(int,int)" + INDEX,
            "int beyond(int)" + INDEX,
            "long drawdown(int,int)" + INDEX,
            "long drawdownByPulses(int,int)" + INDEX,
            "int worstMonth(int)" + INDEX,
            "int over(int)" + INDEX,
            "int headroom(int,int)" + INDEX,
            "int heaviest(int,int)" + INDEX,
            "int taken(int)" + INDEX,
            "int takenLate(int,int)" + INDEX,
            "int licence(int)" + INDEX,
            "int ratio(int,int,int)" + INDEX + ARGUMENT,
            "long burden(int)" + INDEX,
            "int trade(int,int,int)" + INDEX + ARGUMENT + STATE,
            "int mostTraded(int,int)" + INDEX + ARGUMENT);

    public static void main(String[] args) {
        Checks check = new Checks();
        Set<String> seen = new TreeSet<>();
        Set<String> open = new TreeSet<>();
        Set<String> hidden = new TreeSet<>();
        for (Field field : WellField.class.getDeclaredFields()) {
            if (!Modifier.isPrivate(field.getModifiers())) {
                seen.add(field.getType().getSimpleName() + " " + field.getName());
            }
        }
        for (Constructor<?> made : WellField.class.getDeclaredConstructors()) {
            seen.add("WellField" + tail(made));
        }
        for (Method method : WellField.class.getDeclaredMethods()) {
            if (Modifier.isPrivate(method.getModifiers())) {
                hidden.add(method.getName());
            } else {
                seen.add(method.getReturnType().getSimpleName() + " " + method.getName() + tail(method));
                open.add(method.getName());
            }
        }
        compare(check, seen);
        hidden.retainAll(open);
        check.due("private methods that bear the name of a public one: " + hidden, 0, hidden.size());
        check.due("final", 1, Modifier.isFinal(WellField.class.getModifiers()) ? 1 : 0);
        check.due("public", 1, Modifier.isPublic(WellField.class.getModifiers()) ? 1 : 0);
        check.end();
    }

    private static void compare(Checks check, Set<String> seen) {
        for (String want : FACE) {
            check.due("the face has " + want, 1, seen.contains(want) ? 1 : 0);
        }
        for (String got : seen) {
            check.due("the document has " + got, 1, FACE.contains(got) ? 1 : 0);
        }
    }

    private static String tail(Executable of) {
        StringBuilder tail = new StringBuilder("(");
        for (Class<?> type : of.getParameterTypes()) {
            tail.append(tail.length() > 1 ? "," : "").append(type.getSimpleName());
        }
        tail.append(")");
        for (Class<?> type : of.getExceptionTypes()) {
            tail.append(type.getSimpleName());
        }
        return tail.toString();
    }
}

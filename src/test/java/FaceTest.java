import java.lang.reflect.Constructor;
import java.lang.reflect.Field;
import java.lang.reflect.Method;
import java.lang.reflect.Modifier;
import java.util.Arrays;
import java.util.Set;
import java.util.TreeSet;

/** The class has the document's public face and nothing else that can be seen from outside. */
public final class FaceTest {
    private static final Set<String> METHODS = Set.of(
            "int clef(int, int, int)", "int shift(int, int, int, int)", "int plain()",
            "int note(int, int, int, int, int, int, int)", "int drop(int)", "int of(int, int)",
            "long height(int)", "int at(int, int, int)", "int shared(int, int)",
            "int setting(int, int)", "int hides(boolean)", "int gap(int)", "long place(int)",
            "int crowded(int) throws ArithmeticException", "int about(int)");
    private static final Set<String> CONSTANTS = Set.of("NONE", "UNKNOWN", "OUTSIDE", "FULL");

    public static void main(String[] args) {
        Check check = new Check("FaceTest");
        check.due("NONE", StaffHeads.NONE, -1000);
        check.due("UNKNOWN", StaffHeads.UNKNOWN, -1001);
        check.due("OUTSIDE", StaffHeads.OUTSIDE, -1002);
        check.due("FULL", StaffHeads.FULL, -1003);
        check.holds("public and final", StaffHeads.class.getModifiers() == (Modifier.PUBLIC | Modifier.FINAL));
        methods(check);
        fields(check);
        Constructor<?>[] constructors = StaffHeads.class.getDeclaredConstructors();
        check.due("constructors", constructors.length, 1);
        check.holds("StaffHeads(int) is public", Modifier.isPublic(constructors[0].getModifiers())
                && Arrays.equals(constructors[0].getParameterTypes(), new Class<?>[] {int.class}));
        check.end();
    }

    private static void methods(Check check) {
        Set<String> seen = new TreeSet<>();
        Set<String> names = new TreeSet<>();
        for (Method m : StaffHeads.class.getDeclaredMethods()) {
            if (Modifier.isPublic(m.getModifiers())) {
                seen.add(told(m));
                names.add(m.getName());
                check.holds(m + " is an object's", !Modifier.isStatic(m.getModifiers()));
            }
        }
        check.holds("the public methods are the document's, not " + seen, seen.equals(METHODS));
        for (Method m : StaffHeads.class.getDeclaredMethods()) {
            if (!Modifier.isPublic(m.getModifiers())) {
                check.holds(m + " is private", Modifier.isPrivate(m.getModifiers()));
                check.holds(m + " has a name of its own", !names.contains(m.getName()));
            }
        }
    }

    private static String told(Method m) {
        StringBuilder text = new StringBuilder(m.getReturnType() + " " + m.getName() + "(");
        for (Class<?> type : m.getParameterTypes()) {
            text.append(text.charAt(text.length() - 1) == '(' ? "" : ", ").append(type);
        }
        text.append(")");
        for (Class<?> type : m.getExceptionTypes()) {
            text.append(" throws ").append(type.getSimpleName());
        }
        return text.toString();
    }

    private static void fields(Check check) {
        Set<String> seen = new TreeSet<>();
        for (Field f : StaffHeads.class.getDeclaredFields()) {
            if (Modifier.isPublic(f.getModifiers())) {
                seen.add(f.getName());
            } else {
                check.holds(f + " is private", Modifier.isPrivate(f.getModifiers()));
            }
            check.holds(f + " is final if static",
                    !Modifier.isStatic(f.getModifiers()) || Modifier.isFinal(f.getModifiers()));
        }
        check.holds("the public constants are the document's", seen.equals(CONSTANTS));
    }
}

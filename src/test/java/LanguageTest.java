import java.lang.reflect.Constructor;
import java.lang.reflect.Field;
import java.lang.reflect.Method;
import java.lang.reflect.Modifier;
import java.util.Set;
import java.util.TreeSet;

/** The face of the class (rule 1 of LANGUAGE.md), and what its members show of the other rules. */
public final class LanguageTest {
    private static final Check check = new Check("LanguageTest");
    private static final String[] FACE = {
        "feed int", "line", "fault", "told int", "coach int int", "passenger int int", "lefts int int", "horn int",
        "rounds int", "book int int", "walk int boolean", "out int", "slow int int", "waits int int", "light int",
        "drift int", "undo", "left int int", "behind int int int", "comes int", "leastWait int", "lights int",
        "scheme int int int", "clear int int", "see int int int boolean", "truly int", "tryNext", "write int int",
        "tear", "judge", "seed int", "keep int", "goBack int"};

    public static void main(String[] args) {
        face();
        constants();
        nested();
        check.end();
    }

    private static void face() {
        Set<String> want = new TreeSet<>(Set.of(FACE));
        Set<String> got = new TreeSet<>();
        for (Method method : LeftCoaches.class.getDeclaredMethods()) {
            if (Modifier.isPrivate(method.getModifiers())) {
                for (String of : FACE) {
                    check.due("private " + method.getName(), of.split(" ")[0].equals(method.getName()) ? 1 : 0, 0);
                }
            } else {
                StringBuilder name = new StringBuilder(method.getName());
                for (Class<?> type : method.getParameterTypes()) {
                    name.append(' ').append(type.getName());
                }
                got.add(name.toString());
                check.due(name + " is public, answers int", isPlain(method) ? 1 : 0, 1);
            }
        }
        check.due("methods of the face: " + got, got.equals(want) ? 1 : 0, 1);
        Constructor<?>[] makers = LeftCoaches.class.getDeclaredConstructors();
        check.due("constructors", makers.length, 1);
        check.due("arguments of the constructor", makers[0].getParameterCount(), 0);
        check.due("class is public and final", LeftCoaches.class.getModifiers(), Modifier.PUBLIC | Modifier.FINAL);
    }

    private static boolean isPlain(Method method) {
        return method.getModifiers() == Modifier.PUBLIC && method.getReturnType() == int.class;
    }

    private static void constants() {
        check.due("NONE", LeftCoaches.NONE, -1);
        check.due("UNKNOWN", LeftCoaches.UNKNOWN, -1000000001);
        check.due("OUTSIDE", LeftCoaches.OUTSIDE, -1000000002);
        check.due("NOT", LeftCoaches.NOT, -1000000003);
        check.due("FULL", LeftCoaches.FULL, -1000000004);
        int open = 0;
        for (Field field : LeftCoaches.class.getDeclaredFields()) {
            open += Modifier.isPrivate(field.getModifiers()) ? 0 : 1;
            boolean loose = Modifier.isStatic(field.getModifiers()) && !Modifier.isFinal(field.getModifiers());
            check.due("static and not final: " + field.getName(), loose ? 1 : 0, 0);
        }
        check.due("fields that are not private", open, 5);
    }

    private static void nested() {
        Class<?>[] nested = LeftCoaches.class.getDeclaredClasses();
        check.due("at most twelve classes", nested.length <= 11 ? 1 : 0, 1);
        for (Class<?> type : nested) {
            check.due(type + " is static", Modifier.isStatic(type.getModifiers()) ? 1 : 0, 1);
            check.due(type + " is not public", Modifier.isPublic(type.getModifiers()) ? 1 : 0, 0);
            int held = 0;
            for (Field field : type.getDeclaredFields()) {
                held += Modifier.isStatic(field.getModifiers()) ? 0 : 1;
            }
            check.due(type + " has at most twenty fields", held <= 20 ? 1 : 0, 1);
            for (Method method : type.getDeclaredMethods()) {
                for (String of : FACE) {
                    check.due(type + " has " + method.getName(), of.split(" ")[0].equals(method.getName()) ? 1 : 0, 0);
                }
            }
        }
    }
}

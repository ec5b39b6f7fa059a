import java.lang.reflect.Constructor;
import java.lang.reflect.Field;
import java.lang.reflect.Method;
import java.lang.reflect.Modifier;
import java.util.Arrays;
import java.util.HashSet;
import java.util.Set;
import java.util.TreeSet;
import java.util.stream.Collectors;

/** The document's public face, and rule 1 of LANGUAGE.md: no other member can be seen from outside. */
public final class FaceTest {
    private static final String THROWS =
            " throws IllegalArgumentException, IllegalStateException, UnsupportedOperationException";
    private static final String[] FACE = {
        "boolean timer(int)", "boolean beat(int)", "int put(int, int, int)" + THROWS,
        "int change(int, int, boolean)" + THROWS, "int read(int, int)" + THROWS, "int outcome(int)",
        "int value(int)", "boolean compact(int)", "boolean crash(int)", "boolean restart(int)",
        "int deliver(int)", "boolean lose(int)", "int waiting()", "int message(int, int)",
        "int state(int, int)", "int entry(int, int, int)", "int stored(int, int)",
    };

    private static String names(Class<?>[] types) {
        return Arrays.stream(types).map(Class::getSimpleName).collect(Collectors.joining(", "));
    }

    private static String told(Method m) {
        String thrown = m.getExceptionTypes().length == 0 ? "" : " throws " + names(m.getExceptionTypes());
        return m.getReturnType().getSimpleName() + " " + m.getName() + "(" + names(m.getParameterTypes()) + ")" + thrown;
    }

    public static void main(String[] args) {
        Checks checks = new Checks("FaceTest");
        Class<?> face = QuorumLog.class;
        checks.yes("public", Modifier.isPublic(face.getModifiers()));
        checks.yes("final", Modifier.isFinal(face.getModifiers()));
        Set<String> seen = new TreeSet<>();
        Set<String> publicNames = new HashSet<>();
        for (Method m : face.getDeclaredMethods()) {
            if (!Modifier.isPrivate(m.getModifiers())) {
                seen.add(told(m));
                publicNames.add(m.getName());
                checks.yes("public: " + m, Modifier.isPublic(m.getModifiers()) && !Modifier.isStatic(m.getModifiers()));
            }
        }
        Set<String> due = new TreeSet<>(Arrays.asList(FACE));
        checks.yes("methods " + seen + ", due are " + due, seen.equals(due));
        checks.same("constructors", face.getDeclaredConstructors().length, 1);
        for (Constructor<?> c : face.getDeclaredConstructors()) {
            checks.yes("its constructor", Modifier.isPublic(c.getModifiers()) && names(c.getParameterTypes()).equals("int"));
        }
        for (Field f : face.getDeclaredFields()) {
            checks.yes("private: " + f, Modifier.isPrivate(f.getModifiers()));
        }
        checkNamesInside(checks, face, publicNames);
        checks.end();
    }

    private static void checkNamesInside(Checks checks, Class<?> face, Set<String> publicNames) {
        for (Method m : face.getDeclaredMethods()) {
            checks.no("private with a public name: " + m,
                    Modifier.isPrivate(m.getModifiers()) && publicNames.contains(m.getName()));
        }
        for (Class<?> inside : face.getDeclaredClasses()) {
            checks.yes("static: " + inside, Modifier.isStatic(inside.getModifiers()));
            checks.no("public: " + inside, Modifier.isPublic(inside.getModifiers()));
            for (Method m : inside.getDeclaredMethods()) {
                checks.no("a public name inside: " + m, publicNames.contains(m.getName()));
            }
        }
    }
}

import java.lang.reflect.Constructor;
import java.lang.reflect.Executable;
import java.lang.reflect.Field;
import java.lang.reflect.Method;
import java.lang.reflect.Modifier;
import java.util.HashSet;
import java.util.Set;
import java.util.TreeSet;

/** The public face of the document, and what LANGUAGE.md's rule 1 leaves beside it. */
final class FaceTest {
    private static final String I = "IndexOutOfBoundsException";
    private static final String A = "IllegalArgumentException";
    private static final String S = "IllegalStateException";
    private static final String[] FACE = {
        "int form(1) " + A + " " + S, "int depth(2) " + I, "int piece(1) " + I + " " + S,
        "int tone(3) " + I + " " + A, "int forbid(2) " + I + " " + A, "int sounds(2) " + I,
        "int stroke(5) " + I + " " + A, "int strokeAnew(5) " + I + " " + A,
        "int begin(1) " + I + " " + S, "int drum(1) " + A + " " + S, "int beats(1) " + A + " " + S,
        "int now(1) " + A, "long ticks(0)", "long strokes(1) " + I, "int days(1) " + A + " " + S,
        "int pitch(3) " + I + " " + A, "int drift(2) " + I + " " + A, "int years(1) " + A + " " + S,
        "int tune(2) " + I + " " + A, "int beat(3) " + I, "int player(1) " + A + " " + S,
        "int learn(3) " + I + " " + A + " " + S, "int slip(4) " + I + " " + A + " " + S,
        "int unlike(3) " + I, "int covered(1) " + I, "GongCycles(0)",
    };
    private static final String[] CONSTANTS = {
        "NONE=-1", "BASE=0", "TWIN=1", "TURN=2", "WALK=3",
        "HOLD=0", "SLOW=1", "HASTEN=2", "END=3", "CUT=4",
    };

    private FaceTest() {
    }

    public static void main(String[] args) throws IllegalAccessException {
        Class<?> it = GongCycles.class;
        Check.is("public and final", 1, () -> it.getModifiers() == (Modifier.PUBLIC | Modifier.FINAL) ? 1 : 0);
        methods(it);
        constants(it);
        noStaticState(it);
        for (Class<?> inside : it.getDeclaredClasses()) {
            String name = "inside, " + inside.getSimpleName();
            Check.is(name, 1, () -> closed(inside.getModifiers()) ? 1 : 0);
            noStaticState(inside);
        }
        Check.end();
    }

    private static boolean closed(int modifiers) {
        boolean shown = Modifier.isPublic(modifiers) || Modifier.isProtected(modifiers);
        return !shown && Modifier.isStatic(modifiers);
    }

    private static void methods(Class<?> it) {
        Set<String> found = new TreeSet<>();
        Set<String> names = new HashSet<>();
        Set<String> hidden = new HashSet<>();
        for (Method method : it.getDeclaredMethods()) {
            if (Modifier.isPrivate(method.getModifiers())) {
                hidden.add(method.getName());
            } else {
                found.add(method.getReturnType() + " " + method.getName() + shape(method));
                names.add(method.getName());
            }
        }
        for (Constructor<?> made : it.getDeclaredConstructors()) {
            found.add(it.getSimpleName() + shape(made));
        }
        Check.same("methods", found.toString(), new TreeSet<>(Set.of(FACE)).toString());
        hidden.retainAll(names);
        Check.same("private methods with a public name", hidden.toString(), "[]");
    }

    private static String shape(Executable call) {
        StringBuilder text = new StringBuilder("(").append(call.getParameterCount()).append(")");
        for (Class<?> thrown : call.getExceptionTypes()) {
            text.append(" ").append(thrown.getSimpleName());
        }
        for (Class<?> parameter : call.getParameterTypes()) {
            text.append(parameter == int.class ? "" : " not an int");
        }
        return text.toString();
    }

    private static void constants(Class<?> it) throws IllegalAccessException {
        Set<String> found = new TreeSet<>();
        for (Field field : it.getDeclaredFields()) {
            if (!Modifier.isPrivate(field.getModifiers())) {
                boolean constant = Modifier.isStatic(field.getModifiers()) && field.getType() == int.class;
                found.add(constant ? field.getName() + "=" + field.getInt(null) : field.toString());
            }
        }
        Check.same("constants", found.toString(), new TreeSet<>(Set.of(CONSTANTS)).toString());
    }

    private static void noStaticState(Class<?> it) {
        for (Field field : it.getDeclaredFields()) {
            int modifiers = field.getModifiers();
            boolean fine = !Modifier.isStatic(modifiers) || Modifier.isFinal(modifiers);
            Check.same("static and not final, " + field.getName(), Boolean.toString(fine), "true");
        }
    }
}

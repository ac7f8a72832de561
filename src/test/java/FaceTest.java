import java.lang.reflect.Constructor;
import java.lang.reflect.Field;
import java.lang.reflect.Method;
import java.lang.reflect.Modifier;
import java.util.Arrays;
import java.util.Set;
import java.util.TreeSet;

/** The public face: its constants, constructor and methods with their throws clauses, and nothing else that is seen. */
public final class FaceTest {
    private static final String INDEX = "IndexOutOfBoundsException", ARGUMENT = "IllegalArgumentException", STATE = "IllegalStateException";

    public static void main(String[] args) throws Exception {
        Due due = new Due();
        constants(due);
        compare(due, "methods", methods(), dueMethods());
        due.is("public final", Rotationary.class.getModifiers(), Modifier.PUBLIC | Modifier.FINAL);
        Constructor<?>[] constructors = Rotationary.class.getDeclaredConstructors();
        due.is("constructors", constructors.length, 1);
        due.is("arguments of the constructor", constructors[0].getParameterCount(), 0);
        due.is("modifiers of the constructor", constructors[0].getModifiers(), Modifier.PUBLIC);
        for (Class<?> inside : Rotationary.class.getDeclaredClasses()) {
            due.is(inside.getSimpleName() + " is static", Modifier.isStatic(inside.getModifiers()), true);
            due.is(inside.getSimpleName() + " is seen outside", (inside.getModifiers() & (Modifier.PUBLIC | Modifier.PROTECTED)) != 0, false);
        }
        due.end();
    }

    private static void constants(Due due) throws Exception {
        String[] names = {"NONE", "PASS", "ATTACK", "BLOCK", "OWN", "TWICE", "FOURTH", "ROW", "LIBERO", "FALL", "OUT", "NET", "ORDER"};
        int[] values = {-1, 0, 1, 2, 1, 2, 3, 4, 5, 6, 7, 8, 9};
        Set<String> seen = new TreeSet<>();
        for (Field field : Rotationary.class.getDeclaredFields()) {
            if (Modifier.isPrivate(field.getModifiers())) {
                due.is(field.getName() + " is static, but not final", Modifier.isStatic(field.getModifiers()) && !Modifier.isFinal(field.getModifiers()), false);
            } else {
                seen.add(Modifier.toString(field.getModifiers()) + " " + field.getType() + " " + field.getName());
            }
        }
        Set<String> want = new TreeSet<>();
        for (int i = 0; i < names.length; i++) {
            want.add("public static final int " + names[i]);
            due.is(names[i], Rotationary.class.getField(names[i]).getInt(null), values[i]);
        }
        compare(due, "constants", seen, want);
    }

    private static Set<String> methods() {
        Set<String> names = new TreeSet<>();
        for (Method method : Rotationary.class.getDeclaredMethods()) {
            if (!Modifier.isPrivate(method.getModifiers()) && !method.isSynthetic()) {
                names.add(told(method));
            }
        }
        return names;
    }

    private static String told(Method method) {
        StringBuilder text = new StringBuilder(Modifier.toString(method.getModifiers()));
        text.append(' ').append(method.getReturnType()).append(' ').append(method.getName());
        text.append(Arrays.toString(method.getParameterTypes()));
        for (Class<?> thrown : method.getExceptionTypes()) {
            text.append(' ').append(thrown.getSimpleName());
        }
        return text.toString();
    }

    private static Set<String> dueMethods() {
        return new TreeSet<>(Arrays.asList(
            due("int line", "int, int, int", INDEX, STATE),
            due("int libero", "int, int", INDEX, STATE),
            due("int begin", "int", INDEX, STATE),
            due("boolean serve", "int", INDEX, STATE),
            due("int touch", "int, int, int, boolean", INDEX, ARGUMENT, STATE),
            due("int fall", "int", INDEX, STATE),
            due("boolean net", "int, boolean", INDEX, STATE),
            due("int find", "", STATE),
            due("boolean exchange", "int, int", INDEX, STATE),
            due("int substitute", "int, int, int", INDEX, STATE),
            due("boolean challenge", "int", INDEX, STATE),
            due("int points", "int", INDEX),
            due("int pointsAnew", "int", INDEX),
            due("int sets", "int", INDEX),
            due("int at", "int, int", INDEX),
            due("int atAnew", "int, int", INDEX),
            due("int about", "int", ARGUMENT),
            due("int of", "int, int", INDEX, ARGUMENT),
            due("int lost", "int, int", INDEX, ARGUMENT)));
    }

    private static String due(String name, String parameters, String... thrown) {
        StringBuilder text = new StringBuilder("public ").append(name).append('[').append(parameters).append(']');
        for (String exception : thrown) {
            text.append(' ').append(exception);
        }
        return text.toString();
    }

    private static void compare(Due due, String what, Set<String> got, Set<String> want) {
        if (!got.equals(want)) {
            due.tell(what + " are " + got + ", due are " + want);
        }
    }
}

import java.lang.reflect.Constructor;
import java.lang.reflect.Field;
import java.lang.reflect.Method;
import java.lang.reflect.Modifier;
import java.util.Arrays;
import java.util.Set;
import java.util.TreeSet;

/** The class has the document's face and no other member that can be seen from outside. */
public final class FaceTest {
    private static final String BAD = " throws IllegalArgumentException";
    private static final String STATE = ", IllegalStateException";
    private static final String TROUBLE = ", ArithmeticException, UnsupportedOperationException";
    private static final String[] FACE = {
        "int quote(double)" + BAD + STATE,
        "int blend(int, int, double, double)" + BAD + STATE,
        "int greater(int, int)" + BAD + STATE,
        "int option(int, int, int, double, int)" + BAD + STATE,
        "void terms(int, int, int, boolean, int)" + BAD + STATE,
        "void engine(int, int, int)" + BAD + STATE,
        "int set(int, double)" + BAD,
        "double value(int)" + BAD + TROUBLE,
        "void freeze(int, boolean)" + BAD + STATE,
        "double bump(int, int, double)" + BAD + TROUBLE,
        "boolean uses(int, int)" + BAD,
        "int node(int, int)" + BAD,
        "int count(int)",
    };

    public static void main(String[] args) {
        Check check = new Check();
        Class<QuoteGraph> face = QuoteGraph.class;
        check.same("public", Modifier.isPublic(face.getModifiers()), true);
        check.same("final", Modifier.isFinal(face.getModifiers()), true);
        checkConstructor(check, face);
        checkMethods(check, face);
        for (Field field : face.getDeclaredFields()) {
            check.same("private " + field, Modifier.isPrivate(field.getModifiers()), true);
        }
        for (Class<?> inside : face.getDeclaredClasses()) {
            check.same("static " + inside, Modifier.isStatic(inside.getModifiers()), true);
            check.same("public " + inside, Modifier.isPublic(inside.getModifiers()), false);
        }
        check.end();
    }

    private static void checkConstructor(Check check, Class<?> face) {
        Constructor<?>[] made = face.getDeclaredConstructors();
        check.same("constructors", made.length, 1);
        check.same("public constructor", Modifier.isPublic(made[0].getModifiers()), true);
        check.same("constructor's parameters", made[0].getParameterCount(), 0);
        check.same("constructor's exceptions", made[0].getExceptionTypes().length, 0);
    }

    private static void checkMethods(Check check, Class<?> face) {
        Set<String> open = new TreeSet<>();
        Set<String> openNames = new TreeSet<>();
        for (Method method : face.getDeclaredMethods()) {
            if (!Modifier.isPrivate(method.getModifiers())) {
                open.add(asWritten(method));
                openNames.add(method.getName());
                check.same("public " + method, Modifier.isPublic(method.getModifiers()), true);
                check.same("static " + method, Modifier.isStatic(method.getModifiers()), false);
            }
        }
        for (Method method : face.getDeclaredMethods()) {
            boolean hidden = Modifier.isPrivate(method.getModifiers());
            boolean clash = hidden && openNames.contains(method.getName());
            check.same("private with a public name: " + method, clash, false);
        }
        check.same("face is " + open, open.equals(new TreeSet<>(Arrays.asList(FACE))), true);
    }

    private static String asWritten(Method method) {
        String taken = listed(method.getParameterTypes());
        String thrown = listed(method.getExceptionTypes());
        return method.getReturnType().getSimpleName() + " " + method.getName() + "(" + taken + ")"
                + (thrown.isEmpty() ? "" : " throws " + thrown);
    }

    private static String listed(Class<?>[] types) {
        StringBuilder text = new StringBuilder();
        for (Class<?> type : types) {
            text.append(text.length() == 0 ? "" : ", ").append(type.getSimpleName());
        }
        return text.toString();
    }
}

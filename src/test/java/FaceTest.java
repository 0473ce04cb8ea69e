import java.lang.reflect.Constructor;
import java.lang.reflect.Field;
import java.lang.reflect.Method;
import java.lang.reflect.Modifier;
import java.util.ArrayList;
import java.util.Collections;
import java.util.List;

/** The public face of the document, and what LANGUAGE.md's rules 1 and 5 say of members. */
public final class FaceTest {
    private static final String STATE = " IllegalStateException";
    private static final String ARGUMENT = " IllegalArgumentException";
    private static final String INDEX = " IndexOutOfBoundsException";
    private static final String[] METHODS = {
        "int add(int, int, int, int, int)" + ARGUMENT + STATE,
        "int remove(int)" + INDEX,
        "int edit(int, int)" + INDEX + ARGUMENT + STATE,
        "int choose(int)" + INDEX + STATE,
        "int chooseOnce(int)" + INDEX,
        "int setPattern(int, int)" + ARGUMENT + STATE,
        "int start()" + STATE,
        "int good()" + STATE,
        "int running()",
        "int next()",
        "void lock(int, int)" + ARGUMENT + STATE,
        "boolean enter(int)" + ARGUMENT + STATE,
        "boolean isLocked()",
        "int entries()",
        "int at(int)" + INDEX,
        "int placeOf(int)" + INDEX,
        "int tries(int)" + INDEX,
        "int compare(int, int)" + INDEX,
        "int foretold(int)" + INDEX,
        "int register()",
    };
    private static final Check check = new Check();

    public static void main(String[] args) throws IllegalAccessException {
        check.due("modifiers", Modifier.toString(BootChooser.class.getModifiers()), "public final");
        theConstants();
        theConstructors();
        theMethods();
        theClassesInside();
        check.end();
    }

    private static void theConstants() throws IllegalAccessException {
        List<String> found = new ArrayList<>();
        for (Field field : BootChooser.class.getDeclaredFields()) {
            if (!Modifier.isPrivate(field.getModifiers())) {
                found.add(Modifier.toString(field.getModifiers()) + " " + field.getName() + " " + field.getInt(null));
            }
        }
        String kind = "public static final ";
        holdAll("constants", found, kind + "NONE -1", kind + "EARLIER 0", kind + "PLAIN 1", kind + "LATER 2");
        staticFieldsAreFinal(BootChooser.class);
    }

    private static void theConstructors() {
        Constructor<?>[] made = BootChooser.class.getDeclaredConstructors();
        check.due("constructors", made.length, 1);
        check.due("constructor", made[0].toString(), "public BootChooser()");
    }

    private static void theMethods() {
        List<String> found = new ArrayList<>();
        List<String> publicNames = new ArrayList<>();
        List<String> privateNames = new ArrayList<>();
        for (Method method : BootChooser.class.getDeclaredMethods()) {
            if (Modifier.isPrivate(method.getModifiers())) {
                privateNames.add(method.getName());
                continue;
            }
            check.due(method.getName(), Modifier.toString(method.getModifiers()), "public");
            publicNames.add(method.getName());
            found.add(written(method));
        }
        holdAll("methods", found, METHODS);
        check.due("private methods with public names", !Collections.disjoint(publicNames, privateNames), false);
    }

    private static void theClassesInside() {
        for (Class<?> inside : BootChooser.class.getDeclaredClasses()) {
            int modifiers = inside.getModifiers();
            check.due(inside.getName() + " is static", Modifier.isStatic(modifiers), true);
            check.due(inside.getName() + " is seen", Modifier.isPublic(modifiers) || Modifier.isProtected(modifiers),
                    false);
            staticFieldsAreFinal(inside);
        }
    }

    private static void staticFieldsAreFinal(Class<?> owner) {
        for (Field field : owner.getDeclaredFields()) {
            int modifiers = field.getModifiers();
            check.due(field.getName() + " may change", Modifier.isStatic(modifiers) && !Modifier.isFinal(modifiers),
                    false);
        }
    }

    private static String written(Method method) {
        StringBuilder text = new StringBuilder();
        text.append(method.getReturnType().getSimpleName()).append(' ').append(method.getName()).append('(');
        String gap = "";
        for (Class<?> parameter : method.getParameterTypes()) {
            text.append(gap).append(parameter.getSimpleName());
            gap = ", ";
        }
        text.append(')');
        for (Class<?> thrown : method.getExceptionTypes()) {
            text.append(' ').append(thrown.getSimpleName());
        }
        return text.toString();
    }

    private static void holdAll(String what, List<String> found, String... due) {
        List<String> want = new ArrayList<>(List.of(due));
        Collections.sort(want);
        Collections.sort(found);
        check.due(what, found.toString(), want.toString());
    }
}

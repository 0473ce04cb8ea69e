import java.io.IOException;
import java.lang.reflect.Method;
import java.lang.reflect.Modifier;
import java.nio.file.Files;
import java.nio.file.Path;
import java.util.List;
import java.util.regex.Matcher;
import java.util.regex.Pattern;

/** What can be seen of LANGUAGE.md's rules in the program's text, and the counts of its rule 11. */
public final class LanguageTest {
    private static final Path PROGRAM = Path.of("src/main/java/BootChooser.java");
    /** Rules 2, 4, 5, 6 and 13: none of these may stand in the program; a switch may have arrows. */
    private static final List<String> NEVER = List.of("\\bpackage\\b", "::", "(?m)^(?!\\s*(case|default)\\b).*->",
            "\\bfinally\\b", "\\bsynchronized\\b", "\\bassert\\b", "\\bprotected\\b", "\\bstatic\\s*\\{",
            "\\bSystem\\.(?!arraycopy\\b)", "\\bThread\\b", "\\bRandom\\b", "\\bhashCode\\b", "\\w+Exact\\b",
            "\\bArrayIndexOutOfBoundsException\\b", "\\bNullPointerException\\b", "\\bClassCastException\\b",
            "\\bNegativeArraySizeException\\b", "\\bArrayStoreException\\b",
            "\\bcatch\\s*\\([^)]*\\b(Arithmetic|Runtime)?(Exception|Throwable)\\b");
    private static final Pattern THROWN = Pattern.compile("\\bthrow\\b[^;]*;");
    private static final Pattern RIGHTLY_THROWN = Pattern.compile("throw new (IllegalState|IllegalArgument|"
            + "IndexOutOfBounds|Arithmetic|UnsupportedOperation|NoSuchElement|Runtime)Exception\\((\"[^\"]*\")?\\);");
    private static final int MOST_LINES = 60;
    private static final int MOST_PARAMETERS = 7;
    private static final int MOST_FIELDS = 20;
    private static final int MOST_CLASSES = 12;
    private static final Check check = new Check();

    public static void main(String[] args) throws IOException {
        String text = Files.readString(PROGRAM);
        check.due("signs beyond 127", text.chars().anyMatch(sign -> sign > 127), false);
        for (String pattern : NEVER) {
            check.due("stands in the program: " + pattern, Pattern.compile(pattern).matcher(text).find(), false);
        }
        throwsAreWrittenOut(text);
        methodsAreShort(text);
        countsAreLow();
        check.end();
    }

    private static void throwsAreWrittenOut(String text) {
        Matcher thrown = THROWN.matcher(text);
        while (thrown.find()) {
            check.due(thrown.group(), RIGHTLY_THROWN.matcher(thrown.group()).matches(), true);
        }
    }

    /** A method ends with the first brace that stands as far in as the method itself. */
    private static void methodsAreShort(String text) {
        String[] lines = text.split("\n");
        for (int i = 0; i < lines.length; i++) {
            if (lines[i].matches(" {4,8}(public|private) [^=;]*\\(.*")) {
                String end = lines[i].replaceAll("\\S.*", "") + "}";
                int length = 1;
                while (i + length < lines.length && !lines[i + length].equals(end)) {
                    length++;
                }
                check.due("is too long: " + lines[i].strip(), length > MOST_LINES, false);
            }
        }
    }

    private static void countsAreLow() {
        Class<?>[] inside = BootChooser.class.getDeclaredClasses();
        check.due("too many classes", inside.length + 1 > MOST_CLASSES, false);
        countsAreLow(BootChooser.class);
        for (Class<?> one : inside) {
            countsAreLow(one);
        }
    }

    private static void countsAreLow(Class<?> owner) {
        long fields = List.of(owner.getDeclaredFields()).stream()
                .filter(field -> !Modifier.isStatic(field.getModifiers())).count();
        check.due("too many fields in " + owner.getName(), fields > MOST_FIELDS, false);
        for (Method method : owner.getDeclaredMethods()) {
            int parameters = method.getParameterCount();
            check.due("too many parameters of " + method.getName(), parameters > MOST_PARAMETERS, false);
        }
    }
}

import java.io.IOException;
import java.lang.reflect.Method;
import java.lang.reflect.Modifier;
import java.nio.file.Files;
import java.nio.file.Path;
import java.util.ArrayList;
import java.util.HashMap;
import java.util.List;
import java.util.Map;
import java.util.regex.Matcher;
import java.util.regex.Pattern;
import java.util.stream.Stream;

/** README.md keeps to the program: its example answers what it says, and its tables name every call and every test. */
public final class ReadmeTest {
    private static final String MADE = "BootChooser chooser = new BootChooser();";
    private static final Pattern EXAMPLE = Pattern.compile("(?s)```java\n(.*?)\n```");
    /** A call with its answer behind it; where words stand in the answer's place, the call must have none. */
    private static final Pattern LINE = Pattern.compile("(?:int (\\w+) = )?chooser\\.(\\w+)\\((.*)\\); +"
            + "// (?:(-?\\d+|true|false)(?::.*)?|[a-z].*)");
    private static final Map<String, Integer> CONSTANTS = Map.of("BootChooser.NONE", BootChooser.NONE,
            "BootChooser.EARLIER", BootChooser.EARLIER, "BootChooser.PLAIN", BootChooser.PLAIN,
            "BootChooser.LATER", BootChooser.LATER);
    private static final Check check = new Check();

    public static void main(String[] args) throws IOException {
        String page = Files.readString(Path.of("README.md"));
        theExample(page);
        everyCall(page);
        everyTest(page);
        check.end();
    }

    private static void theExample(String page) {
        Matcher found = EXAMPLE.matcher(page);
        boolean hasExample = found.find();
        check.due("the page has an example", hasExample, true);
        if (hasExample) {
            answersWhatItSays(found.group(1).split("\n"));
        }
    }

    private static void answersWhatItSays(String[] lines) {
        check.due("first line", lines[0], MADE);
        Program program = new Program();
        Map<String, Integer> known = new HashMap<>(CONSTANTS);
        for (int i = 1; i < lines.length; i++) {
            Matcher line = LINE.matcher(lines[i]);
            boolean canBeRead = line.matches();
            check.due("can be read: " + lines[i], canBeRead, true);
            if (!canBeRead) {
                return;
            }
            String answer = new Call(line.group(2), arguments(line.group(3), known)).on(program);
            check.due(lines[i], answer, line.group(4) == null ? "done" : line.group(4));
            if (line.group(1) != null) {
                known.put(line.group(1), Integer.valueOf(answer));
            }
        }
    }

    private static int[] arguments(String listed, Map<String, Integer> known) {
        List<Integer> numbers = new ArrayList<>();
        for (String one : listed.isEmpty() ? new String[0] : listed.split(", ")) {
            numbers.add(known.containsKey(one) ? known.get(one) : Integer.valueOf(one));
        }
        return numbers.stream().mapToInt(Integer::intValue).toArray();
    }

    private static void everyCall(String page) {
        for (Method method : BootChooser.class.getDeclaredMethods()) {
            if (Modifier.isPublic(method.getModifiers())) {
                Matcher row = Pattern.compile("(?m)^\\| `" + method.getName() + "\\((.*)\\)` \\|.*").matcher(page);
                boolean hasRow = row.find();
                check.due("has a row: " + method.getName(), hasRow, true);
                if (hasRow) {
                    theArguments(method, row.group(1));
                    theExceptions(method, row.group());
                }
            }
        }
    }

    private static void theArguments(Method method, String listed) {
        int many = listed.isEmpty() ? 0 : listed.split(", ").length;
        check.due("arguments of " + method.getName(), many, method.getParameterCount());
    }

    /** The last column names them in the order of the document, and FaceTest holds that the method does so. */
    private static void theExceptions(Method method, String row) {
        StringBuilder want = new StringBuilder();
        for (Class<?> thrown : method.getExceptionTypes()) {
            want.append(thrown == Check.ARGUMENT ? "argument " : thrown == Check.STATE ? "state " : "index ");
        }
        String[] columns = row.split("\\|");
        StringBuilder named = new StringBuilder();
        Matcher word = Pattern.compile("\\b(argument|state|index)\\b").matcher(columns[columns.length - 1]);
        while (word.find()) {
            named.append(word.group()).append(' ');
        }
        check.due("exceptions of " + method.getName(), named.toString(), want.toString());
    }

    private static void everyTest(String page) throws IOException {
        List<String> tests = new ArrayList<>();
        try (Stream<Path> files = Files.list(Path.of("src/test/java"))) {
            files.map(file -> file.getFileName().toString()).filter(name -> name.endsWith("Test.java"))
                    .forEach(name -> tests.add(name.replace(".java", "")));
        }
        for (String test : tests) {
            check.due("has a row: " + test, page.contains("\n| `" + test + "` |"), true);
        }
        long rows = page.lines().filter(line -> line.matches("\\| `\\w+Test` \\|.*")).count();
        check.due("rows of tests", rows, tests.size());
    }
}

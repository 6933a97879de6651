import java.io.File;
import java.io.IOException;
import java.lang.reflect.InvocationTargetException;
import java.lang.reflect.Method;
import java.nio.file.Files;
import java.nio.file.Path;
import java.util.Set;
import java.util.TreeSet;
import java.util.regex.Matcher;
import java.util.regex.Pattern;

/** README.md: the calls of its example answer what stands behind them, and no call or test goes unnamed. */
public final class ReadmeTest {
    private static final Pattern EXAMPLE = Pattern.compile("x\\.(\\w+)\\(([^)]*)\\); +// (-?\\w+):.*");

    public static void main(String[] args) throws IOException, ReflectiveOperationException {
        String text = Files.readString(Path.of("README.md"));
        example(text);
        table(text);
        testsAreNamed(text);
        Check.end();
    }

    private static void example(String text) throws ReflectiveOperationException {
        int start = text.indexOf("```java\n");
        int end = text.indexOf("```\n", start + 1);
        Check.due("README.md has an example", start >= 0 && end > start, true);
        if (start < 0 || end < start) {
            return;
        }
        String[] lines = text.substring(start, end).split("\n");
        Check.due("the example's first line", lines[1], "UnitFinder x = new UnitFinder();");
        UnitFinder x = new UnitFinder();
        Set<String> shown = new TreeSet<>();
        for (int i = 2; i < lines.length; i++) {
            Matcher line = EXAMPLE.matcher(lines[i]);
            boolean isCall = line.matches();
            Check.due("a call with its answer: " + lines[i], isCall, true);
            if (isCall) {
                shown.add(line.group(1));
                Check.due(lines[i], answer(x, line.group(1), line.group(2).split(", ")), line.group(3));
            }
        }
        Check.due("the calls that the example shows", shown, callsOfTheFace());
    }

    private static String answer(UnitFinder x, String name, String[] words) throws ReflectiveOperationException {
        Class<?>[] types = new Class<?>[words.length];
        Object[] values = new Object[words.length];
        for (int i = 0; i < words.length; i++) {
            types[i] = int.class;
            values[i] = Integer.valueOf(words[i]);
        }
        Method method = UnitFinder.class.getMethod(name, types);
        try {
            Object got = method.invoke(x, values);
            return got == null ? "nothing" : got.toString();
        } catch (InvocationTargetException e) {
            return e.getCause().getClass().getSimpleName();
        }
    }

    private static void table(String text) {
        Set<String> rows = new TreeSet<>();
        Matcher row = Pattern.compile("(?m)^\\| `(\\w+)\\(").matcher(text);
        while (row.find()) {
            rows.add(row.group(1));
        }
        Check.due("the calls that the table tells", rows, callsOfTheFace());
    }

    private static Set<String> callsOfTheFace() {
        Set<String> names = new TreeSet<>();
        for (Method method : UnitFinder.class.getMethods()) {
            if (method.getDeclaringClass() == UnitFinder.class) {
                names.add(method.getName());
            }
        }
        return names;
    }

    private static void testsAreNamed(String text) {
        String[] files = new File("src/test/java").list();
        Check.due("tests are found", files != null, true);
        if (files == null) {
            return;
        }
        for (String file : files) {
            if (file.endsWith("Test.java")) {
                String name = file.substring(0, file.length() - ".java".length());
                Check.due(name + " stands in README.md", text.contains("`" + name + "`"), true);
            }
        }
    }
}

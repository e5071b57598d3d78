import java.io.IOException;
import java.lang.reflect.Method;
import java.lang.reflect.Modifier;
import java.nio.file.Files;
import java.nio.file.Path;
import java.util.Set;
import java.util.TreeSet;
import java.util.regex.Matcher;
import java.util.regex.Pattern;

/** README.md says how to use the class: its example answers as it says, and its table has every call. */
public final class ReadmeTest {
    private static final Pattern FED = Pattern.compile("for \\(char sign : \"([^\"]*)\"");
    private static final Pattern CALL = Pattern.compile("^x\\.(\\w+)\\(([^)]*)\\); +// (-?\\d+)");
    private static final Pattern ROW = Pattern.compile("^\\| `(\\w+)\\(([^)]*)\\)` \\|");
    private static int wrong = 0;

    public static void main(String[] args) throws IOException, ReflectiveOperationException {
        String[] lines = Files.readString(Path.of("README.md")).split("\n");
        example(lines);
        table(lines);
        System.out.println(wrong == 0 ? "the README is true" : wrong + " lines of the README are not true");
        if (wrong != 0) {
            System.exit(1);
        }
    }

    private static void due(String what, Object got, Object want) {
        if (!got.equals(want)) {
            wrong++;
            System.out.println(what + " is " + got + ", due is " + want);
        }
    }

    private static void example(String[] lines) throws ReflectiveOperationException {
        DaysBag x = new DaysBag();
        int calls = 0;
        for (String line : lines) {
            Matcher fed = FED.matcher(line);
            if (fed.find()) {
                for (char sign : fed.group(1).toCharArray()) {
                    x.feed(sign);
                }
            }
            Matcher call = CALL.matcher(line);
            if (call.find()) {
                calls++;
                due(line, answer(x, call.group(1), call.group(2)), Long.valueOf(call.group(3)));
            }
        }
        due("the count of the example's calls", calls, 14);
    }

    private static long answer(DaysBag x, String name, String told) throws ReflectiveOperationException {
        String[] numbers = told.isEmpty() ? new String[0] : told.split(", ");
        Object[] with = new Object[numbers.length];
        for (int i = 0; i < with.length; i++) {
            with[i] = Integer.valueOf(numbers[i]);
        }
        return ((Number) named(name).invoke(x, with)).longValue();
    }

    private static Method named(String name) throws NoSuchMethodException {
        for (Method method : DaysBag.class.getMethods()) {
            if (method.getName().equals(name)) {
                return method;
            }
        }
        throw new NoSuchMethodException(name);
    }

    private static void table(String[] lines) {
        Set<String> told = new TreeSet<>();
        for (String line : lines) {
            Matcher row = ROW.matcher(line);
            if (row.find()) {
                int taken = row.group(2).isEmpty() ? 0 : row.group(2).split(", ").length;
                told.add(row.group(1) + " of " + taken);
            }
        }
        Set<String> there = new TreeSet<>();
        for (Method method : DaysBag.class.getDeclaredMethods()) {
            if (Modifier.isPublic(method.getModifiers())) {
                there.add(method.getName() + " of " + method.getParameterCount());
            }
        }
        due("the table", told, there);
    }
}

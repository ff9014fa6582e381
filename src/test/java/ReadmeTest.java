import java.io.IOException;
import java.lang.reflect.Method;
import java.lang.reflect.Modifier;
import java.nio.file.Files;
import java.nio.file.Path;
import java.util.List;
import java.util.regex.Matcher;
import java.util.regex.Pattern;

/** README.md's examples answer what stands behind them, and its table has a row for each call. */
public final class ReadmeTest {
    private static final String NEW = "SpoonWords x = new SpoonWords();";
    private static final Pattern EXAMPLE = Pattern.compile("x\\.(\\w+)\\((.*?)\\);\\s*// (-?\\d+): .*");
    private static final Pattern ROW = Pattern.compile("\\| `(\\w+)\\((.*?)\\)` \\|.*");

    private static int asked = 0;
    private static int wrong = 0;

    public static void main(String[] args) throws IOException, ReflectiveOperationException {
        List<String> lines = Files.readAllLines(Path.of("README.md"));
        runExamples(lines);
        findRows(lines);
        System.out.println(asked + " examples and rows, " + wrong + " wrong");
        if (wrong != 0 || asked == 0) {
            System.exit(1);
        }
    }

    private static void runExamples(List<String> lines) throws ReflectiveOperationException {
        SpoonWords x = new SpoonWords();
        for (String line : lines) {
            if (line.equals(NEW)) {
                x = new SpoonWords();
            } else if (line.startsWith("x.")) {
                asked++;
                Matcher example = EXAMPLE.matcher(line);
                if (!example.matches()) {
                    fault(line + " has no answer behind it");
                } else {
                    runExample(x, line, example);
                }
            }
        }
    }

    private static void runExample(SpoonWords x, String line, Matcher example) throws ReflectiveOperationException {
        Method method = methodNamed(example.group(1));
        String[] given = argumentsIn(example.group(2));
        if (method == null || method.getParameterCount() != given.length) {
            fault(line + " is no call");
            return;
        }
        Object[] values = new Object[given.length];
        for (int i = 0; i < given.length; i++) {
            long value = Long.decode(given[i]);
            values[i] = method.getParameterTypes()[i] == long.class ? (Object) value : (Object) (int) value;
        }
        long got = ((Number) method.invoke(x, values)).longValue();
        if (got != Long.parseLong(example.group(3))) {
            fault(line + " answered " + got);
        }
    }

    private static void findRows(List<String> lines) {
        for (Method method : SpoonWords.class.getDeclaredMethods()) {
            if (Modifier.isPublic(method.getModifiers())) {
                asked++;
                long rows = lines.stream().map(ROW::matcher).filter(Matcher::matches)
                    .filter(row -> row.group(1).equals(method.getName()))
                    .filter(row -> argumentsIn(row.group(2)).length == method.getParameterCount()).count();
                if (rows != 1) {
                    fault(method.getName() + " has " + rows + " rows with its arguments");
                }
            }
        }
    }

    private static Method methodNamed(String name) {
        for (Method method : SpoonWords.class.getDeclaredMethods()) {
            if (Modifier.isPublic(method.getModifiers()) && method.getName().equals(name)) {
                return method;
            }
        }
        return null;
    }

    private static String[] argumentsIn(String list) {
        return list.isEmpty() ? new String[0] : list.split(", ");
    }

    private static void fault(String told) {
        wrong++;
        System.out.println(told);
    }
}

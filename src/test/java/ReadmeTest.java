import java.io.IOException;
import java.lang.reflect.Method;
import java.nio.file.Files;
import java.nio.file.Path;
import java.util.Arrays;
import java.util.Map;
import java.util.regex.Matcher;
import java.util.regex.Pattern;

/** README.md's example answers what it says there, and its table names every call of the face. */
public final class ReadmeTest {
    private static final Checks CHECKS = new Checks("ReadmeTest");
    private static final Map<String, Integer> WORDS = Map.of("BAD", -1, "NO", -2, "FULL", -3, "NONE", -4);
    private static final Pattern TEXT = Pattern.compile("\"([^\"]*)\"\\.toCharArray");
    private static final Pattern CALL =
        Pattern.compile("^bay\\.(\\w+)\\(([-0-9, ]*)\\);\\s*// (-?\\d+|BAD|NO|FULL|NONE): ");
    private static final int CALLS_OF_THE_EXAMPLE = 8;

    private ReadmeTest() { }

    public static void main(String[] args) throws IOException, ReflectiveOperationException {
        String readme = Files.readString(Path.of("README.md"));
        example(readme);
        table(readme);
        CHECKS.end();
    }

    private static void example(String readme) throws ReflectiveOperationException {
        ChainLays bay = new ChainLays();
        int asked = 0;
        for (String line : readme.split("\n")) {
            Matcher text = TEXT.matcher(line);
            if (text.find()) {
                Bays.write(bay, text.group(1));
            }
            Matcher call = CALL.matcher(line);
            if (call.find()) {
                asked++;
                String due = call.group(3);
                int want = WORDS.containsKey(due) ? WORDS.get(due) : Integer.parseInt(due);
                CHECKS.due(line, ask(bay, call.group(1), call.group(2)), want);
            }
        }
        CHECKS.due("calls of the example that tell an answer", asked, CALLS_OF_THE_EXAMPLE);
    }

    private static int ask(ChainLays bay, String name, String listed) throws ReflectiveOperationException {
        String[] numbers = listed.isBlank() ? new String[0] : listed.split(",\\s*");
        Class<?>[] kinds = new Class<?>[numbers.length];
        Arrays.fill(kinds, int.class);
        Object[] values = new Object[numbers.length];
        for (int i = 0; i < numbers.length; i++) {
            values[i] = Integer.valueOf(numbers[i]);
        }
        return (int) ChainLays.class.getMethod(name, kinds).invoke(bay, values);
    }

    private static void table(String readme) {
        for (Method method : ChainLays.class.getMethods()) {
            if (method.getDeclaringClass() == ChainLays.class) {
                Matcher row = Pattern.compile("(?m)^\\| `" + method.getName() + "\\(([^)]*)\\)` \\|").matcher(readme);
                boolean told = row.find();
                CHECKS.so("the table tells " + method.getName(), told);
                int parameters = !told || row.group(1).isEmpty() ? 0 : row.group(1).split(", ").length;
                CHECKS.due("what " + method.getName() + " takes", parameters, method.getParameterCount());
            }
        }
    }
}

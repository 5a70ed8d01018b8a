import java.io.IOException;
import java.lang.reflect.Method;
import java.nio.file.Files;
import java.nio.file.Path;
import java.util.List;
import java.util.Set;
import java.util.TreeSet;
import java.util.regex.Matcher;
import java.util.regex.Pattern;

/** The example of README.md is read from there and asked call by call: each answer is as it tells. */
public final class ReadmeTest {
    private static final Pattern MADE = Pattern.compile("RuleKernels x = new RuleKernels\\((\\d+), (\\d+)\\);");
    private static final Pattern CALL = Pattern.compile("x\\.(\\w+)\\((.*)\\); *// (true|false|-?\\d+)(: .*)?");

    private static final Set<String> asked = new TreeSet<>();
    private static int wrong = 0;

    public static void main(String[] args) throws IOException, ReflectiveOperationException {
        RuleKernels x = null;
        for (String line : example(Files.readAllLines(Path.of("README.md")))) {
            Matcher made = MADE.matcher(line);
            if (made.matches()) {
                x = new RuleKernels(Integer.parseInt(made.group(1)), Integer.parseInt(made.group(2)));
            } else {
                ask(x, line);
            }
        }
        check("calls of the example", asked.toString(),
                "[back, candidates, into, mark, order, reason, rule, run, set, take, woken]");
        System.out.println(wrong == 0 ? "the example answers as told" : wrong + " lines do not hold");
        if (wrong != 0) {
            System.exit(1);
        }
    }

    private static List<String> example(List<String> lines) {
        int first = lines.indexOf("```java") + 1;
        List<String> rest = lines.subList(first, lines.size());
        int end = rest.indexOf("```");
        return first == 0 || end < 0 ? List.of() : rest.subList(0, end);
    }

    private static void ask(RuleKernels x, String line) throws ReflectiveOperationException {
        Matcher call = CALL.matcher(line);
        if (x == null || !call.matches()) {
            check("a line of the example", line, "a call with its answer, after an object was made");
            return;
        }
        asked.add(call.group(1));
        String[] given = call.group(2).isEmpty() ? new String[0] : call.group(2).split(", ");
        check(line, answer(x, call.group(1), given), call.group(3));
    }

    private static String answer(RuleKernels x, String name, String[] given) throws ReflectiveOperationException {
        for (Method method : RuleKernels.class.getMethods()) {
            if (method.getName().equals(name) && method.getParameterCount() == given.length) {
                Object[] values = new Object[given.length];
                for (int i = 0; i < given.length; i++) {
                    boolean isLong = method.getParameterTypes()[i] == long.class;
                    values[i] = isLong ? (Object) Long.valueOf(given[i]) : (Object) Integer.valueOf(given[i]);
                }
                return String.valueOf(method.invoke(x, values));
            }
        }
        return "no such call";
    }

    private static void check(String what, String got, String want) {
        if (!got.equals(want)) {
            wrong++;
            System.out.println(what + " answered " + got + ", due is " + want);
        }
    }
}

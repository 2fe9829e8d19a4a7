import java.io.IOException;
import java.lang.reflect.InvocationTargetException;
import java.lang.reflect.Method;
import java.nio.file.Files;
import java.nio.file.Path;
import java.util.Arrays;
import java.util.List;
import java.util.regex.Matcher;
import java.util.regex.Pattern;

/** The calls that README.md shows answer what stands behind them, and it tells of every call of the face. */
public final class ReadmeTest {
    private static final Pattern NEW = Pattern.compile("CopyHeap heap = new CopyHeap\\((-?\\d+)\\);.*");
    private static final Pattern CALL =
        Pattern.compile("heap\\.(\\w+)\\(([-\\d, ]*)\\);\\s+// (nothing|true|false|-?\\d+|throws \\w+): .*");

    private static int wrong = 0;

    private static void fail(String text) {
        wrong++;
        System.out.println(text);
    }

    private static String answerOf(CopyHeap heap, String name, String given) throws ReflectiveOperationException {
        Object[] arguments = given.isEmpty() ? new Object[0]
            : Arrays.stream(given.split(", ")).map(Integer::valueOf).toArray();
        Class<?>[] ints = new Class<?>[arguments.length];
        Arrays.fill(ints, int.class);
        try {
            Object answer = CopyHeap.class.getMethod(name, ints).invoke(heap, arguments);
            return answer == null ? "nothing" : answer.toString();
        } catch (InvocationTargetException e) {
            return "throws " + e.getCause().getClass().getSimpleName();
        }
    }

    private static void checkExample(List<String> lines) throws ReflectiveOperationException {
        CopyHeap heap = null;
        int calls = 0;
        for (String line : lines) {
            Matcher made = NEW.matcher(line);
            Matcher call = CALL.matcher(line);
            if (made.matches()) {
                heap = new CopyHeap(Integer.parseInt(made.group(1)));
            } else if (call.matches() && heap != null) {
                calls++;
                String got = answerOf(heap, call.group(1), call.group(2));
                if (!got.equals(call.group(3))) {
                    fail(line + " -- but it answers " + got);
                }
            } else if (line.startsWith("heap.")) {
                fail("not in the form of a call with its answer: " + line);
            }
        }
        if (calls == 0) {
            fail("README.md shows no call");
        }
    }

    private static void checkTable(String text) {
        for (Method method : CopyHeap.class.getMethods()) {
            if (method.getDeclaringClass() == CopyHeap.class) {
                int parameters = method.getParameterCount();
                String names = parameters == 0 ? "" : "\\w+(, \\w+){" + (parameters - 1) + "}";
                if (!Pattern.compile("\\| `" + method.getName() + "\\(" + names + "\\)` \\|").matcher(text).find()) {
                    fail("README.md does not tell of " + method);
                }
            }
        }
    }

    public static void main(String[] args) throws IOException, ReflectiveOperationException {
        String text = Files.readString(Path.of("README.md"));
        checkExample(text.lines().toList());
        checkTable(text);
        System.out.println(wrong == 0 ? "README.md tells what holds" : wrong + " lines of README.md do not hold");
        if (wrong != 0) {
            System.exit(1);
        }
    }
}

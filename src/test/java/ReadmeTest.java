import java.lang.reflect.Method;
import java.lang.reflect.Modifier;
import java.nio.file.Files;
import java.nio.file.Path;
import java.util.regex.Matcher;
import java.util.regex.Pattern;

/** README.md tells no answer that isn't due, and forgets no call of the face. */
public final class ReadmeTest {
    private static final Pattern CALL = Pattern.compile("^x\\.(\\w+)\\(([^)]*)\\); +// (-?\\d+):.*$");
    private static final int LEAST_CALLS = 20;

    public static void main(String[] args) throws Exception {
        String text = Files.readString(Path.of("README.md"));
        int wrong = exampleFaults(text) + callsNotTold(text);
        System.out.println(wrong == 0 ? "the README holds" : wrong + " lines of the README do not hold");
        if (wrong != 0) {
            System.exit(1);
        }
    }

    private static int exampleFaults(String text) throws Exception {
        OneLantern x = new OneLantern();
        int wrong = 0;
        int calls = 0;
        for (String line : text.split("\n")) {
            if (!line.startsWith("x.")) {
                continue;
            }
            calls++;
            Matcher m = CALL.matcher(line);
            if (!m.matches()) {
                System.out.println("no call with its answer: " + line);
                wrong++;
                continue;
            }
            long got = answer(x, m.group(1), m.group(2));
            if (got != Long.parseLong(m.group(3))) {
                System.out.println(line + " answered " + got);
                wrong++;
            }
        }
        if (calls < LEAST_CALLS) {
            System.out.println("the example has but " + calls + " calls");
            wrong++;
        }
        return wrong;
    }

    private static long answer(OneLantern x, String name, String list) throws Exception {
        String[] told = list.isEmpty() ? new String[0] : list.split(", ");
        for (Method m : OneLantern.class.getDeclaredMethods()) {
            if (!m.getName().equals(name) || !Modifier.isPublic(m.getModifiers()) || m.getParameterCount() != told.length) {
                continue;
            }
            Object[] values = new Object[told.length];
            for (int i = 0; i < told.length; i++) {
                long value = Long.decode(told[i]);
                values[i] = m.getParameterTypes()[i] == int.class ? (Object) (int) value : (Object) value;
            }
            return ((Number) m.invoke(x, values)).longValue();
        }
        throw new IllegalArgumentException("no such call: " + name);
    }

    private static int callsNotTold(String text) {
        int wrong = 0;
        for (Method m : OneLantern.class.getDeclaredMethods()) {
            if (Modifier.isPublic(m.getModifiers()) && !text.contains("`" + m.getName() + "`")) {
                System.out.println("not told of: " + m.getName());
                wrong++;
            }
        }
        return wrong;
    }
}

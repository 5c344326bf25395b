import java.lang.reflect.Method;
import java.lang.reflect.Modifier;
import java.nio.file.Files;
import java.nio.file.Path;
import java.util.Arrays;
import java.util.regex.Matcher;
import java.util.regex.Pattern;

/** What README.md says: its example answers so, and it tells of each call and of the tests. */
public final class ReadmeTest {
    private static final Pattern EXAMPLE = Pattern.compile("(?m)^x\\.(\\w+)\\(([^)]*)\\);\\s*// (-?\\d+)");
    private static int wrong = 0;

    private static void check(boolean holds, String what) {
        if (!holds) {
            wrong++;
            System.out.println("not so in README.md: " + what);
        }
    }

    public static void main(String[] args) throws Exception {
        String readme = Files.readString(Path.of("README.md"));
        checkExample(readme);
        checkCalls(readme);
        check(readme.contains(".ci/run"), "it says how to run the tests");
        System.out.println(wrong == 0 ? "README.md is as due" : wrong + " faults of README.md");
        if (wrong != 0) {
            System.exit(1);
        }
    }

    private static void checkExample(String readme) throws Exception {
        StrandBoxes x = new StrandBoxes();
        Matcher line = EXAMPLE.matcher(readme);
        int calls = 0;
        while (line.find()) {
            String[] numbers = line.group(2).split(", ");
            long got = answer(x, line.group(1), numbers);
            check(got == Long.parseLong(line.group(3)), line.group() + ", but the answer is " + got);
            calls++;
        }
        check(calls >= 10, "an example of ten calls or more, found " + calls);
    }

    private static long answer(StrandBoxes x, String name, String[] numbers) throws Exception {
        Method call = callOf(name);
        Class<?>[] types = call.getParameterTypes();
        Object[] given = new Object[types.length];
        for (int i = 0; i < types.length; i++) {
            long number = Long.parseLong(numbers[i]);
            if (types[i] == long.class) {
                given[i] = number;
            } else {
                given[i] = (int) number;
            }
        }
        return ((Number) call.invoke(x, given)).longValue();
    }

    private static Method callOf(String name) throws NoSuchMethodException {
        for (Method m : StrandBoxes.class.getDeclaredMethods()) {
            if (m.getName().equals(name) && Modifier.isPublic(m.getModifiers())) {
                return m;
            }
        }
        throw new NoSuchMethodException(name);
    }

    private static void checkCalls(String readme) {
        for (Method m : StrandBoxes.class.getDeclaredMethods()) {
            if (Modifier.isPublic(m.getModifiers())) {
                check(Pattern.compile("(?m)^\\| `" + m.getName() + "\\(" + parameters(m) + "\\)` \\|")
                        .matcher(readme).find(), "a row for " + m.getName() + " with what it takes");
            }
        }
    }

    private static String parameters(Method m) {
        String[] each = new String[m.getParameterCount()];
        Arrays.fill(each, "\\w+");
        return String.join(", ", each);
    }
}

import java.io.File;
import java.lang.reflect.Method;
import java.nio.file.Files;
import java.nio.file.Path;
import java.util.HashMap;
import java.util.List;
import java.util.Map;
import java.util.regex.Matcher;
import java.util.regex.Pattern;

/** README.md: the calls of its example answer what is told behind them, and every test is named. */
public final class ReadmeTest {
    private static final Pattern CALL =
        Pattern.compile("(?:int (\\w+) = )?desk\\.(\\w+)\\(([^)]*)\\);\\s*// (-?\\w+).*");
    private static final Map<String, Long> NAMES = new HashMap<>(Map.of("NONE", -1L, "BAD", -2L, "FULL", -3L,
        "MANY", -4L, "SHAPE", -5L, "false", 0L, "true", 1L));
    private static int wrong = 0;

    private static void must(boolean holds, String what) {
        if (!holds) {
            wrong++;
            System.out.println("not so: " + what);
        }
    }

    private static Method methodOf(String name) {
        for (Method m : MensuralRows.class.getMethods()) {
            if (m.getName().equals(name)) {
                return m;
            }
        }
        throw new IllegalStateException("no method " + name);
    }

    /** A sum of numbers and names. */
    private static long worthOf(String words) {
        long sum = 0;
        for (String word : words.trim().split(" *\\+ *")) {
            sum += NAMES.containsKey(word) ? NAMES.get(word) : Long.parseLong(word);
        }
        return sum;
    }

    private static long answer(MensuralRows desk, String name, String words) throws Exception {
        Method m = methodOf(name);
        Class<?>[] types = m.getParameterTypes();
        String[] each = words.isBlank() ? new String[0] : words.split(",");
        Object[] given = new Object[types.length];
        for (int i = 0; i < types.length; i++) {
            long worth = worthOf(each[i]);
            given[i] = types[i] == boolean.class ? (Object) (worth == 1) : types[i] == long.class ? (Object) worth
                : (Object) (int) worth;
        }
        return ((Number) m.invoke(desk, given)).longValue();
    }

    private static void example(String text) throws Exception {
        String block = text.substring(text.indexOf("```java\n") + 8);
        List<String> lines = block.substring(0, block.indexOf("```")).lines().toList();
        must(lines.get(0).equals("MensuralRows desk = new MensuralRows();"), "the example begins with a new desk");
        MensuralRows desk = new MensuralRows();
        for (String line : lines.subList(1, lines.size())) {
            Matcher call = CALL.matcher(line);
            if (!call.matches()) {
                must(false, "a call with its answer: " + line);
                continue;
            }
            long got = answer(desk, call.group(2), call.group(3));
            must(got == worthOf(call.group(4)), line + " (answered " + got + ")");
            if (call.group(1) != null) {
                NAMES.put(call.group(1), got);
            }
        }
        must(lines.size() > 10, "there is an example");
    }

    public static void main(String[] args) throws Exception {
        String text = Files.readString(Path.of("README.md"));
        example(text);
        for (File test : new File("src/test/java").listFiles()) {
            String name = test.getName().replace(".java", "");
            must(text.contains("`" + name + "`"), "README.md names " + name);
        }
        must(text.contains("```sh\n.ci/run\n```"), "README.md says how to run the tests");
        System.out.println(wrong == 0 ? "the example answers as told" : wrong + " wrong");
        if (wrong != 0) {
            System.exit(1);
        }
    }
}

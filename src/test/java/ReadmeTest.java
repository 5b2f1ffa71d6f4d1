import java.io.IOException;
import java.lang.reflect.Method;
import java.lang.reflect.Modifier;
import java.nio.file.Files;
import java.nio.file.Path;
import java.util.Map;
import java.util.regex.Matcher;
import java.util.regex.Pattern;

/** The calls in README.md answer what stands behind them, and the page names each method of the class. */
public final class ReadmeTest {
    private static final Map<String, Long> CODES = Map.of(
        "BAD", -2000000001L, "STATE", -2000000002L, "FULL", -2000000003L, "NONE", -2000000009L);
    private static final Pattern BLOCK = Pattern.compile("```java\n(.*?)```", Pattern.DOTALL);
    private static final Pattern CALL = Pattern.compile("x\\.(\\w+)\\(([^)]*)\\); +// (-?\\d+|[A-Z]+)\\b.*");
    private static final Pattern TEXT = Pattern.compile("for \\(char c : \"(.*)\"\\.toCharArray\\(\\)\\) x\\.type\\(c\\);");
    private static final int LEAST_CALLS = 20;

    private static int calls = 0;
    private static int wrong = 0;

    public static void main(String[] args) throws Exception {
        String page = Files.readString(Path.of("README.md")).replace("\r", "");
        Matcher block = BLOCK.matcher(page);
        while (block.find()) {
            play(block.group(1).split("\n"));
        }
        must(calls >= LEAST_CALLS, "the page has only " + calls + " calls with an answer");
        for (Method m : StochasticBench.class.getDeclaredMethods()) {
            if (Modifier.isPublic(m.getModifiers())) {
                must(page.contains("`" + m.getName() + "`"), "the page does not name " + m.getName());
            }
        }
        System.out.println("ReadmeTest: " + calls + " calls, " + wrong + " wrong");
        if (wrong != 0) {
            System.exit(1);
        }
    }

    private static void must(boolean holds, String otherwise) {
        if (!holds) {
            wrong++;
            System.out.println(otherwise);
        }
    }

    private static void play(String[] lines) throws Exception {
        StochasticBench x = new StochasticBench();
        for (String line : lines) {
            Matcher call = CALL.matcher(line);
            Matcher text = TEXT.matcher(line);
            if (call.matches()) {
                long due = CODES.containsKey(call.group(3)) ? CODES.get(call.group(3)) : Long.parseLong(call.group(3));
                long got = answer(x, call.group(1), call.group(2));
                calls++;
                must(got == due, line + "  answered " + got);
            } else if (text.matches()) {
                for (char c : text.group(1).toCharArray()) {
                    x.type(c);
                }
            } else {
                must(line.equals("StochasticBench x = new StochasticBench();"), "not understood: " + line);
            }
        }
    }

    private static long answer(StochasticBench x, String name, String given) throws Exception {
        String[] parts = given.isEmpty() ? new String[0] : given.split(", *");
        for (Method m : StochasticBench.class.getDeclaredMethods()) {
            if (m.getName().equals(name) && m.getParameterCount() == parts.length) {
                Object[] arguments = new Object[parts.length];
                for (int i = 0; i < parts.length; i++) {
                    boolean isTruth = m.getParameterTypes()[i] == boolean.class;
                    arguments[i] = isTruth ? (Object) Boolean.valueOf(parts[i]) : (Object) Integer.valueOf(parts[i]);
                }
                return ((Number) m.invoke(x, arguments)).longValue();
            }
        }
        throw new IOException("no such method: " + name);
    }
}

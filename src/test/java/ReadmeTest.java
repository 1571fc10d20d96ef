import java.lang.reflect.Method;
import java.lang.reflect.Modifier;
import java.nio.file.Files;
import java.nio.file.Path;
import java.util.HashMap;
import java.util.Map;
import java.util.regex.Matcher;
import java.util.regex.Pattern;

/** README.md holds: each call of its example answers what stands behind it, and each call of the face is told. */
public final class ReadmeTest {
    private static final Pattern CALL = Pattern.compile("hall\\.(\\w+)\\((.*?)\\);\\s*// (-?\\d+)(:.*)?");

    private static int wrong = 0;
    private static int played = 0;

    private static void check(boolean holds, String what) {
        if (!holds) {
            wrong++;
            System.out.println("readme: " + what);
        }
    }

    private static Map<String, Method> calls() {
        Map<String, Method> calls = new HashMap<>();
        for (Method m : HallHeard.class.getDeclaredMethods()) {
            if (Modifier.isPublic(m.getModifiers())) calls.put(m.getName(), m);
        }
        return calls;
    }

    private static Object argument(String text, Class<?> type) {
        long value = text.equals("HallHeard.NONE") ? HallHeard.NONE : Long.parseLong(text);
        if (type == long.class) return value;
        return (int) value;
    }

    private static void play(String example, Map<String, Method> calls) throws Exception {
        HallHeard hall = new HallHeard();
        for (String line : example.split("\n")) {
            if (!line.startsWith("hall.")) continue;
            Matcher m = CALL.matcher(line);
            Method call = m.matches() ? calls.get(m.group(1)) : null;
            check(call != null, "not a call with its answer: " + line);
            if (call == null) continue;
            String[] texts = m.group(2).split(", ");
            Object[] values = new Object[texts.length];
            for (int k = 0; k < texts.length; k++) values[k] = argument(texts[k], call.getParameterTypes()[k]);
            long got = ((Number) call.invoke(hall, values)).longValue();
            check(got == Long.parseLong(m.group(3)), line + " answered " + got);
            played++;
        }
    }

    private static String example(String text) {
        int from = text.indexOf("```java\n");
        int to = from < 0 ? -1 : text.indexOf("```\n", from + 8);
        return to < 0 ? "" : text.substring(from + 8, to);
    }

    public static void main(String[] args) throws Exception {
        String text = Files.readString(Path.of("README.md"));
        Map<String, Method> calls = calls();
        play(example(text), calls);
        check(played > 0, "there is no example");
        for (String name : calls.keySet()) check(text.contains("`" + name + "("), "nothing is told of " + name);
        for (String told : new String[] {"bash .ci/run", "UNKNOWN", "OUTSIDE", "NOT", "FULL", "NONE"}) {
            check(text.contains(told), "nothing is told of " + told);
        }
        System.out.println(wrong == 0 ? "README.md holds" : wrong + " faults of README.md");
        if (wrong != 0) System.exit(1);
    }
}

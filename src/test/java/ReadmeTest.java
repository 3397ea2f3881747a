import java.lang.reflect.Method;
import java.nio.file.Files;
import java.nio.file.Path;
import java.util.regex.Matcher;
import java.util.regex.Pattern;

/** What README.md shows is what the class answers: its example is called line by line, its numbers are looked for. */
public final class ReadmeTest {
    private static final Path README = Path.of("README.md");
    private static final Pattern CALL = Pattern.compile("^    w\\.(\\w+)\\((.*?)\\);\\s+// (-?\\d+):");
    private static final int CALLS = 17;

    private ReadmeTest() {
    }

    public static void main(String[] args) throws Exception {
        example();
        says();
        Due.end();
    }

    private static void example() throws Exception {
        WarmSide w = new WarmSide();
        int called = 0;
        for (String line : Files.readAllLines(README)) {
            Matcher m = CALL.matcher(line);
            if (!m.find()) continue;
            called++;
            Due.is(line.trim(), call(w, m.group(1), m.group(2)), Long.parseLong(m.group(3)));
        }
        Due.is("calls of the example", called, CALLS);
    }

    private static long call(WarmSide w, String name, String list) throws Exception {
        String[] words = list.isEmpty() ? new String[0] : list.split(", ");
        for (Method m : WarmSide.class.getMethods()) {
            if (!m.getName().equals(name)) continue;
            Object[] values = new Object[words.length];
            for (int i = 0; i < values.length; i++) {
                values[i] = value(m.getParameterTypes()[i], words[i]);
            }
            return ((Number) m.invoke(w, values)).longValue();
        }
        throw new IllegalArgumentException("no method " + name);
    }

    private static Object value(Class<?> type, String word) {
        if (type == boolean.class) return Boolean.valueOf(word);
        if (type == long.class) return Long.decode(word.replace("L", ""));
        return Integer.decode(word);
    }

    private static void says() throws Exception {
        String all = Files.readString(README);
        String[] due = {"512 calls", "1000000001", "1000000002", "| -3 |", "| -4 |", "| -6 |", "-20 less", ".ci/run"};
        for (String word : due) {
            Due.holds("README.md says: " + word, all.contains(word));
        }
    }
}

import java.lang.reflect.Method;
import java.nio.file.Files;
import java.nio.file.Path;
import java.util.TreeSet;
import java.util.regex.Matcher;
import java.util.regex.Pattern;

/** What README.md shows is so: its example is played line by line, and its table has every call of the face. */
public final class ReadmeTest {
    private static final Pattern TOLD = Pattern.compile("^for \\(char c : \"([^\"]*)\"\\.toCharArray\\(\\)\\) x\\.feed\\(c\\);$");
    private static final Pattern CALL = Pattern.compile("^x\\.(\\w+)\\(([-0-9, ]*)\\); +// (-?\\d+|NONE|BAD|STATE|FULL)\\b.*$");
    private static final Pattern ROW = Pattern.compile("^\\| `(\\w+)\\(([^)]*)\\)` \\|.*$");

    public static void main(String[] args) throws Exception {
        String text = Files.readString(Path.of("README.md"));
        Due.test("README: the example", () -> example(text));
        Due.test("README: every call of the face", () -> table(text));
        Due.end();
    }

    private static void example(String text) {
        Matcher block = Pattern.compile("(?s)```java\n(.*?)```").matcher(text);
        Due.due("README.md has an example", block.find() ? 1 : 0, 1);
        NineDown x = new NineDown();
        int calls = 0;
        for (String line : block.group(1).split("\n")) {
            Matcher told = TOLD.matcher(line);
            Matcher call = CALL.matcher(line);
            if (told.matches()) {
                Due.feed(x, told.group(1));
            } else if (call.matches()) {
                Due.due(line, answer(x, call.group(1), call.group(2)), due(call.group(3)));
                calls++;
            } else {
                Due.due("line is understood: " + line, line.isBlank() || line.equals("NineDown x = new NineDown();") ? 1 : 0, 1);
            }
        }
        Due.due("the example has calls", calls > 9 ? 1 : 0, 1);
    }

    private static long due(String said) {
        switch (said) {
            case "NONE": return Due.NONE;
            case "BAD": return Due.BAD;
            case "STATE": return Due.STATE;
            case "FULL": return Due.FULL;
            default: return Long.parseLong(said);
        }
    }

    private static long answer(NineDown x, String name, String numbers) {
        String[] told = numbers.isBlank() ? new String[0] : numbers.split(", ");
        Object[] all = new Object[told.length];
        for (int i = 0; i < told.length; i++) {
            all[i] = Integer.valueOf(told[i]);
        }
        for (Method m : NineDown.class.getDeclaredMethods()) {
            if (m.getName().equals(name) && m.getParameterCount() == all.length) {
                try {
                    return ((Number) m.invoke(x, all)).longValue();
                } catch (ReflectiveOperationException thrown) {
                    throw new IllegalStateException(thrown);
                }
            }
        }
        throw new IllegalStateException("no call " + name);
    }

    private static void table(String text) {
        TreeSet<String> shown = new TreeSet<>();
        for (String line : text.split("\n")) {
            Matcher row = ROW.matcher(line);
            if (row.matches()) {
                shown.add(row.group(1) + " " + (row.group(2).isEmpty() ? 0 : row.group(2).split(",").length));
            }
        }
        TreeSet<String> there = new TreeSet<>();
        for (Method m : NineDown.class.getMethods()) {
            if (m.getDeclaringClass() == NineDown.class) {
                there.add(m.getName() + " " + m.getParameterCount());
            }
        }
        Due.due("README.md has " + shown + ", the face " + there, shown.equals(there) ? 1 : 0, 1);
    }
}

import java.io.IOException;
import java.lang.reflect.InvocationTargetException;
import java.lang.reflect.Method;
import java.lang.reflect.Modifier;
import java.nio.file.Files;
import java.nio.file.Path;
import java.util.Set;
import java.util.TreeSet;
import java.util.regex.Matcher;
import java.util.regex.Pattern;

/** The calls that README.md shows, in their order, answer what stands behind them; every call of the face is named. */
public final class ReadmeTest extends Bench {
    private static final Pattern CALL = Pattern.compile("table\\.(\\w+)\\(([^)]*)\\);\\s+// => (-?\\w+)(:.*)?");

    public static void main(String[] args) throws IOException {
        place = "README.md";
        String text = Files.readString(Path.of(System.getProperty("readme", "README.md")));
        SherdTable table = new SherdTable();
        for (String line : text.split("\n")) {
            if (line.startsWith("table.")) {
                runLine(table, line);
            }
        }
        yes("a session stands there", asked > 20);
        namesEveryCall(text);
        end();
    }

    private static void runLine(SherdTable table, String line) {
        Matcher call = CALL.matcher(line);
        if (!call.matches()) {
            tellWrong("can't be read: " + line);
            return;
        }
        asked++;
        String got = answerOf(table, call.group(1), call.group(2));
        if (!got.equals(call.group(3))) {
            tellWrong(line + " answered " + got);
        }
    }

    private static String answerOf(SherdTable table, String name, String told) {
        String[] words = told.isEmpty() ? new String[0] : told.split(", ");
        try {
            return String.valueOf(methodOf(name).invoke(table, numbersOf(words)));
        } catch (InvocationTargetException e) {
            return e.getCause().getClass().getSimpleName();
        } catch (IllegalAccessException e) {
            return "nothing, it can't be called";
        }
    }

    private static Method methodOf(String name) {
        for (Method m : SherdTable.class.getMethods()) {
            if (m.getName().equals(name)) {
                return m;
            }
        }
        throw new IllegalStateException("no call " + name);
    }

    private static Object[] numbersOf(String[] words) {
        Object[] numbers = new Object[words.length];
        for (int k = 0; k < words.length; k++) {
            numbers[k] = Integer.valueOf(words[k]);
        }
        return numbers;
    }

    private static void namesEveryCall(String text) {
        Set<String> missing = new TreeSet<>();
        for (Method m : SherdTable.class.getDeclaredMethods()) {
            if (Modifier.isPublic(m.getModifiers()) && !text.contains("`" + m.getName() + "`")) {
                missing.add(m.getName());
            }
        }
        due("calls that the table of calls doesn't name: " + missing, missing.size(), 0);
    }
}

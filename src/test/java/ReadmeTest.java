import java.io.IOException;
import java.lang.reflect.Method;
import java.lang.reflect.Modifier;
import java.nio.file.Files;
import java.nio.file.Path;
import java.util.regex.Matcher;
import java.util.regex.Pattern;

/** README.md: the calls that it shows answer as it says, and it names every call. */
public final class ReadmeTest {
    private static final Due D = new Due("ReadmeTest");
    private static final Pattern BLOCK = Pattern.compile("(?s)```java\n(.*?)```");
    private static final Pattern TYPED = Pattern.compile("\"([^\"]*)\"");
    private static final Pattern CALL = Pattern.compile("^s\\.(\\w+)\\(([^)]*)\\);\\s*// (-?\\d+)\\b");

    public static void main(String[] args) throws IOException, ReflectiveOperationException {
        String readme = Files.readString(Path.of("README.md"));
        Matcher block = BLOCK.matcher(readme);
        int blocks = 0;
        for (; block.find(); blocks++) {
            run(block.group(1));
        }
        D.due("examples", blocks, 2);
        for (Method m : SoldStops.class.getDeclaredMethods()) {
            if (Modifier.isPublic(m.getModifiers())) {
                D.due(m.getName() + " is named in the table", isInTable(readme, m) ? 1 : 0, 1);
            }
        }
        D.end();
    }

    private static void run(String block) throws ReflectiveOperationException {
        SoldStops s = new SoldStops();
        for (String line : block.split("\n")) {
            Matcher typed = TYPED.matcher(line);
            Matcher call = CALL.matcher(line);
            if (typed.find()) {
                Due.type(s, typed.group(1));
            } else if (call.find()) {
                D.due(line, answer(s, call.group(1), call.group(2)), Long.parseLong(call.group(3)));
            } else {
                // A line in the form of a call without an answer would go untested.
                D.due("no answer in: " + line, line.startsWith("s.") ? 1 : 0, 0);
            }
        }
    }

    private static long answer(SoldStops s, String name, String numbers) throws ReflectiveOperationException {
        for (Method m : SoldStops.class.getDeclaredMethods()) {
            if (Modifier.isPublic(m.getModifiers()) && m.getName().equals(name)) {
                String[] told = numbers.isEmpty() ? new String[0] : numbers.split(", ");
                Object[] given = new Object[told.length];
                for (int i = 0; i < told.length; i++) {
                    given[i] = Integer.parseInt(told[i]);
                }
                return ((Number) m.invoke(s, given)).longValue();
            }
        }
        throw new IllegalArgumentException("no such call: " + name);
    }

    private static boolean isInTable(String readme, Method m) {
        Pattern cell = Pattern.compile("(?m)^\\|.*`" + m.getName() + "\\(([^)]*)\\)`.*\\|$");
        Matcher found = cell.matcher(readme);
        if (!found.find()) {
            return false;
        }
        String names = found.group(1);
        return (names.isEmpty() ? 0 : names.split(", ").length) == m.getParameterCount();
    }
}

import java.io.IOException;
import java.lang.reflect.InvocationTargetException;
import java.lang.reflect.Method;
import java.nio.file.Files;
import java.nio.file.Path;
import java.util.regex.Matcher;
import java.util.regex.Pattern;

/** Makes each call of README.md's example, in its order, and looks whether it answers what is said there. */
public final class ReadmeTest {
    private static final Pattern CALL = Pattern.compile("net\\.(\\w+)\\(([-\\d, ]*)\\);\\s*// (-?\\d+|true|false)\\b.*");

    private static final Check CHECK = new Check();

    public static void main(String[] args) throws IOException, ReflectiveOperationException {
        CHECK.promise("README.md");
        DoorNet net = new DoorNet();
        int calls = 0;
        for (String line : Files.readAllLines(Path.of("README.md"))) {
            if (line.startsWith("net.")) {
                Matcher told = CALL.matcher(line);
                CHECK.due("can be read: " + line, told.matches(), true);
                if (told.matches()) {
                    CHECK.due(line, answer(net, told.group(1), told.group(2)).equals(told.group(3)), true);
                    calls++;
                }
            }
        }
        CHECK.due("there are calls", calls > 0, true);
        CHECK.end();
    }

    private static String answer(DoorNet net, String name, String words)
            throws IllegalAccessException, InvocationTargetException {
        String[] parts = words.isEmpty() ? new String[0] : words.split(", ");
        Object[] numbers = new Object[parts.length];
        for (int j = 0; j < parts.length; j++) {
            numbers[j] = Integer.valueOf(parts[j]);
        }
        for (Method m : DoorNet.class.getMethods()) {
            if (m.getName().equals(name) && m.getDeclaringClass() == DoorNet.class) {
                return m.getParameterCount() == numbers.length ? m.invoke(net, numbers).toString() : "no such call";
            }
        }
        return "no such call";
    }
}

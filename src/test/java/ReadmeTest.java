import java.io.IOException;
import java.lang.reflect.Method;
import java.nio.file.Files;
import java.nio.file.Path;
import java.util.regex.Matcher;
import java.util.regex.Pattern;

/** Makes the calls of README.md's example, each of which tells its answer behind it. */
public final class ReadmeTest {
    private static final Pattern CALL = Pattern.compile("numbers\\.(\\w+)\\((.*)\\); +// (-?\\d+)(:.*)?");

    private ReadmeTest() {
    }

    public static void main(String[] args) throws IOException, ReflectiveOperationException {
        String readme = Files.readString(Path.of("README.md"));
        String example = readme.substring(readme.indexOf("```java\n") + 8);
        ScoreNumbers x = new ScoreNumbers();
        int calls = 0;
        for (String line : example.substring(0, example.indexOf("```")).split("\n")) {
            Matcher call = CALL.matcher(line);
            if (call.matches()) {
                calls++;
                Check.due(line, answer(x, call.group(1), call.group(2)), Integer.parseInt(call.group(3)));
            } else if (!line.equals("ScoreNumbers numbers = new ScoreNumbers();")) {
                Check.tell("a line without an answer: " + line);
            }
        }
        if (calls == 0) {
            Check.tell("README.md has no example");
        }
        everyCallIsNamed(readme);
        Check.end();
    }

    private static int answer(ScoreNumbers x, String name, String arguments) throws ReflectiveOperationException {
        String[] parts = arguments.isEmpty() ? new String[0] : arguments.split(", ");
        Class<?>[] types = new Class<?>[parts.length];
        Object[] values = new Object[parts.length];
        for (int i = 0; i < parts.length; i++) {
            types[i] = int.class;
            values[i] = parts[i].startsWith("'") ? parts[i].charAt(1) : Integer.parseInt(parts[i]);
        }
        return (Integer) ScoreNumbers.class.getMethod(name, types).invoke(x, values);
    }

    private static void everyCallIsNamed(String readme) {
        for (Method method : ScoreNumbers.class.getDeclaredMethods()) {
            boolean isPublic = java.lang.reflect.Modifier.isPublic(method.getModifiers());
            if (isPublic && !Pattern.compile("\\b" + method.getName() + "\\b").matcher(readme).find()) {
                Check.tell("README.md does not name " + method.getName());
            }
        }
    }
}

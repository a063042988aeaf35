import java.io.IOException;
import java.lang.reflect.Field;
import java.lang.reflect.Method;
import java.lang.reflect.Modifier;
import java.nio.file.Files;
import java.nio.file.Path;
import java.util.HashSet;
import java.util.List;
import java.util.Set;
import java.util.regex.Pattern;

/** Those rules of ../shared/LANGUAGE.md that can be seen without understanding the program. */
public final class LanguageTest {
    private static final String SOURCE = "src/main/java/ScoreNumbers.java";
    private static final List<String> FORBIDDEN = List.of("\\bimport\\b", "\\bpackage\\b", "->", "::", "\\bcatch\\b",
            "\\btry\\b", "\\bfinally\\b", "\\bthrow\\b", "\\bsynchronized\\b", "\\bassert\\b", "\\bObject\\b",
            "\\bdouble\\b", "\\bvar\\b", "\\brecord \\w+\\(", "\\binstanceof\\b", "Exact\\(", "\\bnull\\b");

    private LanguageTest() {
    }

    public static void main(String[] args) throws IOException {
        String source = Files.readString(Path.of(SOURCE));
        String code = source.replaceAll("(?s)/\\*.*?\\*/", "").replaceAll("//[^\n]*", "");
        for (String word : FORBIDDEN) {
            if (Pattern.compile(word).matcher(code).find()) {
                Check.tell("the source has " + word);
            }
        }
        if (!source.chars().allMatch(c -> c == '\n' || c >= 32 && c < 127)) {
            Check.tell("the source has a sign that is not plain");
        }
        objectsAreMadeInConstructorsAlone(code);
        methodsAreShort(source);
        classesAreSmall();
        Check.end();
    }

    /** What a call makes stays in the one room of all calls, so no call makes anything. */
    private static void objectsAreMadeInConstructorsAlone(String code) {
        for (String line : code.split("\n")) {
            boolean isField = line.matches("\\s*(private )?final \\S+ \\w+ = new .*");
            if (line.contains("new ") && !isField && !line.contains("states[i] = new State();")) {
                Check.tell("an object is made in: " + line.trim());
            }
        }
    }

    private static void methodsAreShort(String source) {
        int length = 0;
        for (String line : source.split("\n")) {
            // A method of the class is indented by 4, one of a class inside it by 8.
            if (line.matches("( {4}| {8})[^ /*@}].*\\(.*\\) \\{")) {
                length = 0;
            }
            length++;
            if (line.matches("( {4}| {8})\\}") && length > 60) {
                Check.tell("a method of " + length + " lines ends with: " + line);
            }
        }
    }

    private static void classesAreSmall() {
        Set<String> face = new HashSet<>();
        for (Method method : ScoreNumbers.class.getDeclaredMethods()) {
            if (Modifier.isPublic(method.getModifiers())) {
                face.add(method.getName());
            }
        }
        Class<?>[] inside = ScoreNumbers.class.getDeclaredClasses();
        if (inside.length > 11) {
            Check.tell("there are " + inside.length + " classes inside");
        }
        check(ScoreNumbers.class, face);
        for (Class<?> one : inside) {
            if (!Modifier.isStatic(one.getModifiers()) || Modifier.isPublic(one.getModifiers())) {
                Check.tell(one + " is not static, or public");
            }
            check(one, face);
        }
    }

    private static void check(Class<?> one, Set<String> face) {
        int fields = 0;
        for (Field field : one.getDeclaredFields()) {
            if (!Modifier.isStatic(field.getModifiers())) {
                fields++;
            } else if (!Modifier.isFinal(field.getModifiers())) {
                Check.tell(field + " is static and not final");
            }
        }
        if (fields > 20) {
            Check.tell(one + " has " + fields + " fields");
        }
        for (Method method : one.getDeclaredMethods()) {
            if (method.getParameterCount() > 7) {
                Check.tell(method + " takes too many parameters");
            }
            if (!Modifier.isPublic(method.getModifiers()) && face.contains(method.getName())) {
                Check.tell(method + " bears the name of a method of the face");
            }
        }
    }
}

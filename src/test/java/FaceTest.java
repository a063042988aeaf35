import java.lang.reflect.Constructor;
import java.lang.reflect.Field;
import java.lang.reflect.Method;
import java.lang.reflect.Modifier;
import java.util.Map;
import java.util.TreeMap;
import java.util.TreeSet;

/** The public face, just so: five constants, one constructor, 27 methods, and nothing else that is not private. */
public final class FaceTest {
    private static final String METHODS =
            "append(int) attend(int,int) bestWay(int,int) clearText() commonWay(int) fault() hearer(int,int) "
            + "learn(int,int) log(int,int) meaning() patience() placeOfText() reach(int,int) set(int) share() "
            + "styled(int,int) sum(int) tell(int,int,int) tellText(int) understood(int,int,int) "
            + "understoodText(int) undo() unlearn(int,int) untellable(int,int,int) wayAt(int,int,int) "
            + "wayLength(int,int) ways(int)";

    private FaceTest() {
    }

    public static void main(String[] args) throws IllegalAccessException {
        int modifiers = ScoreNumbers.class.getModifiers();
        if (!Modifier.isPublic(modifiers) || !Modifier.isFinal(modifiers)) {
            Check.tell("the class is not public and final");
        }
        constants();
        constructors();
        methods();
        Check.end();
    }

    private static void constants() throws IllegalAccessException {
        Map<String, Integer> due = Map.of("NO_SUCH", -1, "BAD_VALUE", -2, "BAD_TEXT", -3, "TOO_MANY", -4, "NONE", -5);
        Map<String, Integer> got = new TreeMap<>();
        for (Field field : ScoreNumbers.class.getDeclaredFields()) {
            int modifiers = field.getModifiers();
            if (Modifier.isPrivate(modifiers) || field.isSynthetic()) {
                continue;
            }
            if (!Modifier.isPublic(modifiers) || !Modifier.isStatic(modifiers) || !Modifier.isFinal(modifiers)) {
                Check.tell("the field " + field.getName() + " is not of the face");
            } else {
                got.put(field.getName(), field.getInt(null));
            }
        }
        if (!got.equals(due)) {
            Check.tell("the constants are " + got);
        }
    }

    private static void constructors() {
        Constructor<?>[] all = ScoreNumbers.class.getDeclaredConstructors();
        if (all.length != 1 || all[0].getParameterCount() != 0 || !Modifier.isPublic(all[0].getModifiers())) {
            Check.tell("there is not just the one public constructor without parameters");
        }
    }

    private static void methods() {
        TreeSet<String> got = new TreeSet<>();
        TreeSet<String> due = new TreeSet<>(java.util.List.of(METHODS.split(" ")));
        for (Method method : ScoreNumbers.class.getDeclaredMethods()) {
            if (Modifier.isPrivate(method.getModifiers()) || method.isSynthetic()) {
                continue;
            }
            StringBuilder face = new StringBuilder(method.getName()).append('(');
            for (Class<?> type : method.getParameterTypes()) {
                face.append(face.charAt(face.length() - 1) == '(' ? "" : ",").append(type.getName());
            }
            got.add(face.append(')').toString());
            String answer = method.getName().equals("share") ? "float" : "int";
            if (!Modifier.isPublic(method.getModifiers()) || Modifier.isStatic(method.getModifiers())
                    || !method.getReturnType().getName().equals(answer)) {
                Check.tell(method + " is not of the face");
            }
        }
        if (!got.equals(due)) {
            Check.tell("the methods are " + got);
        }
    }
}

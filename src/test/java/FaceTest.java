import java.lang.reflect.Constructor;
import java.lang.reflect.Field;
import java.lang.reflect.Method;
import java.lang.reflect.Modifier;
import java.util.Arrays;
import java.util.TreeSet;

/** The public face: just what the document says, with the exceptions that it says. */
public final class FaceTest {
    private static final String BAD = " throws IllegalArgumentException";
    private static final String BAD_OR_FULL = BAD + " IndexOutOfBoundsException";
    private static final String[] FACE = {
        "int type(long long)" + BAD_OR_FULL, "int add()" + BAD_OR_FULL, "int remove()" + BAD, "int near(int)" + BAD,
        "int like()", "int before()", "int letter(int int)" + BAD, "int distance(int)" + BAD, "int count(int)",
    };

    public static void main(String[] args) {
        Check check = new Check();
        check.due("the class", Modifier.PUBLIC | Modifier.FINAL, NearWords.class.getModifiers());
        check.due("constructors", 1, NearWords.class.getDeclaredConstructors().length);
        for (Constructor<?> constructor : NearWords.class.getDeclaredConstructors()) {
            check.due("the constructor", Modifier.PUBLIC, constructor.getModifiers());
            check.due("its parameters", 0, constructor.getParameterCount());
        }
        TreeSet<String> open = new TreeSet<>();
        for (Method method : NearWords.class.getDeclaredMethods()) {
            if (!Modifier.isPrivate(method.getModifiers())) {
                check.due(method.getName(), Modifier.PUBLIC, method.getModifiers());
                open.add(told(method));
            }
        }
        check.due("the methods", new TreeSet<>(Arrays.asList(FACE)).toString(), open.toString());
        for (Field field : NearWords.class.getDeclaredFields()) {
            check.due(field.getName() + " is private", Modifier.PRIVATE, field.getModifiers() & Modifier.PRIVATE);
        }
        check.end();
    }

    private static String told(Method method) {
        StringBuilder text = new StringBuilder();
        text.append(method.getReturnType()).append(' ').append(method.getName()).append('(');
        text.append(names(method.getParameterTypes())).append(')');
        if (method.getExceptionTypes().length > 0) {
            text.append(" throws ").append(names(method.getExceptionTypes()));
        }
        return text.toString();
    }

    private static String names(Class<?>[] types) {
        String[] names = new String[types.length];
        for (int i = 0; i < types.length; i++) {
            names[i] = types[i].getSimpleName();
        }
        Arrays.sort(names);
        return String.join(" ", names);
    }
}

import java.lang.reflect.Constructor;
import java.lang.reflect.Field;
import java.lang.reflect.Method;
import java.lang.reflect.Modifier;
import java.util.Arrays;
import java.util.Set;
import java.util.TreeSet;

/** The public face: the constants, the constructor and the methods of the document, and nothing else. */
public final class FaceTest {
    private static final String[] METHODS = {
        "place()", "path(int, int, int)", "close(int, boolean)", "food(int)", "lap(int)", "forget()",
        "set(int, int)", "pathOf(int, int)", "placeOf(int, int)", "best(int)", "bestAt(int)",
        "chance(int, int)", "greedy(int)", "over()", "ant(int)", "would(int, int)", "count(int)", "undo()",
        "type(int)", "clearText()", "fault(int)", "play()"};

    public static void main(String[] args) {
        Check.due("INVALID_ARGUMENT", AntTrails.INVALID_ARGUMENT, -1000000001);
        Check.due("NOT_POSSIBLE", AntTrails.NOT_POSSIBLE, -1000000002);
        Check.due("LIMIT_REACHED", AntTrails.LIMIT_REACHED, -1000000003);
        Check.due("NOT_FOUND", AntTrails.NOT_FOUND, -1000000004);
        int modifiers = AntTrails.class.getModifiers();
        Check.due("the class is public and final", modifiers, Modifier.PUBLIC | Modifier.FINAL);
        Check.due("constructors", AntTrails.class.getDeclaredConstructors().length, 1);
        for (Constructor<?> constructor : AntTrails.class.getDeclaredConstructors()) {
            Check.due("parameters of the constructor", constructor.getParameterCount(), 0);
            Check.due("the constructor is public", constructor.getModifiers(), Modifier.PUBLIC);
        }
        lookAtFields();
        lookAtMethods();
        Check.end("FaceTest");
    }

    private static void lookAtFields() {
        Set<String> constants = new TreeSet<>(
            Arrays.asList("INVALID_ARGUMENT", "NOT_POSSIBLE", "LIMIT_REACHED", "NOT_FOUND"));
        for (Field field : AntTrails.class.getDeclaredFields()) {
            boolean isConstant = constants.contains(field.getName());
            int wanted = isConstant ? Modifier.PUBLIC | Modifier.STATIC | Modifier.FINAL : Modifier.PRIVATE;
            int kept = isConstant ? ~0 : Modifier.PUBLIC | Modifier.PROTECTED | Modifier.PRIVATE;
            Check.due("modifiers of " + field.getName(), field.getModifiers() & kept, wanted);
        }
    }

    private static void lookAtMethods() {
        Set<String> wanted = new TreeSet<>(Arrays.asList(METHODS));
        Set<String> names = new TreeSet<>();
        for (String method : METHODS) {
            names.add(method.substring(0, method.indexOf('(')));
        }
        for (Method method : AntTrails.class.getDeclaredMethods()) {
            String face = method.getName()
                + Arrays.toString(method.getParameterTypes()).replace('[', '(').replace(']', ')');
            if (wanted.remove(face)) {
                Check.due("modifiers of " + face, method.getModifiers(), Modifier.PUBLIC);
                Check.due(face + " returns an int", method.getReturnType() == int.class ? 1 : 0, 1);
            } else {
                Check.due(face + " is private", method.getModifiers() & Modifier.PRIVATE, Modifier.PRIVATE);
                Check.due(face + " bears a public name", names.contains(method.getName()) ? 1 : 0, 0);
            }
        }
        Check.due("methods that are missing: " + wanted, wanted.size(), 0);
        for (Class<?> inner : AntTrails.class.getDeclaredClasses()) {
            Check.due(inner + " is static", inner.getModifiers() & Modifier.STATIC, Modifier.STATIC);
            for (Method method : inner.getDeclaredMethods()) {
                Check.due(method + " bears a public name", names.contains(method.getName()) ? 1 : 0, 0);
            }
        }
    }
}

import java.lang.reflect.Constructor;
import java.lang.reflect.Field;
import java.lang.reflect.Method;
import java.lang.reflect.Modifier;
import java.util.Arrays;
import java.util.TreeSet;

/** The class shows the members of the document's face and no others. */
public final class FaceTest {
    private static final String[] FACE = {
        "void open(int, int) NoSuchElementException",
        "int add(int, int, int, boolean) NoSuchElementException, IllegalArgumentException, IllegalStateException",
        "void drop(int, int) NoSuchElementException, IllegalArgumentException, IllegalStateException",
        "void move(int, int, int, int) NoSuchElementException, IllegalArgumentException, IllegalStateException",
        "void write(int, int, int, int) NoSuchElementException, IllegalArgumentException, IllegalStateException",
        "int commit(int) NoSuchElementException, IllegalStateException",
        "void decide(int, int, int, int) NoSuchElementException, IllegalArgumentException",
        "void bury(int, int, boolean) NoSuchElementException, IllegalArgumentException",
        "int merge(int, int, int) NoSuchElementException, IllegalArgumentException, IllegalStateException",
        "int conflict(int, int, int) NoSuchElementException, IllegalArgumentException",
        "int about(int, int, int) NoSuchElementException, IllegalArgumentException",
        "long marks(int, int, int) NoSuchElementException, IllegalArgumentException",
        "long nodes(int, int) NoSuchElementException",
        "long ancestors(int) NoSuchElementException",
        "boolean certify(int, int, int, int) NoSuchElementException",
        "boolean trust(int, int, boolean) NoSuchElementException",
        "long heads(int, int) NoSuchElementException",
        "int exchange(int) NoSuchElementException",
        "long has(int) NoSuchElementException",
    };

    public static void main(String[] args) {
        Checks checks = new Checks("FaceTest");
        checks.due("modifiers", MarkedTrees.class.getModifiers(), Modifier.PUBLIC | Modifier.FINAL);
        TreeSet<String> shown = new TreeSet<>();
        for (Method method : MarkedTrees.class.getDeclaredMethods()) {
            if (!Modifier.isPrivate(method.getModifiers())) {
                checks.due(method.getName() + " modifiers", method.getModifiers(), Modifier.PUBLIC);
                shown.add(describe(method));
            }
        }
        checks.due("methods", shown.toString(), new TreeSet<>(Arrays.asList(FACE)).toString());
        for (Field field : MarkedTrees.class.getDeclaredFields()) {
            checks.due(field.getName() + " is private", Modifier.isPrivate(field.getModifiers()), true);
        }
        Constructor<?>[] constructors = MarkedTrees.class.getDeclaredConstructors();
        checks.due("constructors", constructors.length, 1);
        checks.due("constructor", constructors[0].toString(), "public MarkedTrees()");
        checks.end();
    }

    private static String describe(Method method) {
        return method.getReturnType().getSimpleName() + " " + method.getName()
            + "(" + names(method.getParameterTypes()) + ") " + names(method.getExceptionTypes());
    }

    private static String names(Class<?>[] types) {
        return String.join(", ", Arrays.stream(types).map(Class::getSimpleName).toList());
    }
}

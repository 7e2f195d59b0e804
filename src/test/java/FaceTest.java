import java.lang.reflect.Constructor;
import java.lang.reflect.Field;
import java.lang.reflect.Method;
import java.lang.reflect.Modifier;
import java.util.Set;
import java.util.TreeSet;

/** The class has the document's face and shows nothing else. */
final class FaceTest {
    private static final String[] FACE = {
        "int node(int, int, int) IllegalArgumentException IllegalStateException",
        "void lengths(int, double, double) IllegalArgumentException",
        "void place(int, double, double) IllegalArgumentException",
        "void lay(int, int, int) IllegalArgumentException",
        "void mode(int, int, double) IllegalArgumentException",
        "void hide(int, boolean) IllegalArgumentException",
        "int key(int, int, double, double) IllegalArgumentException IllegalStateException",
        "void unkey(int, int) IllegalArgumentException NoSuchElementException",
        "void into(int, int) IllegalArgumentException IllegalStateException",
        "int remove(int) IllegalArgumentException",
        "int paint(double) IllegalArgumentException",
        "int cell(int, int) IllegalArgumentException",
        "int top(double, double, double) IllegalArgumentException NoSuchElementException",
        "double around(int, int, double) IllegalArgumentException NoSuchElementException",
        "int told(int, int) IllegalArgumentException",
        "int count(int)",
    };

    public static void main(String[] args) {
        Check check = new Check("the public face");
        Set<String> shown = new TreeSet<>();
        Set<String> publicNames = new TreeSet<>();
        Set<String> privateNames = new TreeSet<>();
        for (Method method : SceneEasel.class.getDeclaredMethods()) {
            if (Modifier.isPrivate(method.getModifiers())) {
                privateNames.add(method.getName());
            } else {
                shown.add(written(method));
                publicNames.add(method.getName());
                check.due(method.getName() + " is public", Modifier.isPublic(method.getModifiers()), true);
                check.due(method.getName() + " is static", Modifier.isStatic(method.getModifiers()), false);
            }
        }
        check.due("what is shown", shown, new TreeSet<>(Set.of(FACE)));
        privateNames.retainAll(publicNames);
        check.due("private methods with a public one's name", privateNames, Set.of());
        for (Field field : SceneEasel.class.getDeclaredFields()) {
            check.due(field.getName() + " is private", Modifier.isPrivate(field.getModifiers()), true);
        }
        Constructor<?>[] constructors = SceneEasel.class.getDeclaredConstructors();
        check.due("constructors", constructors.length, 1);
        check.due("its parameters", constructors[0].getParameterCount(), 0);
        check.due("it is public", Modifier.isPublic(constructors[0].getModifiers()), true);
        check.due("a public final class", SceneEasel.class.getModifiers(), Modifier.PUBLIC | Modifier.FINAL);
        check.end();
    }

    private static String written(Method method) {
        StringBuilder text = new StringBuilder(method.getReturnType().getName());
        text.append(' ').append(method.getName()).append('(');
        String comma = "";
        for (Class<?> parameter : method.getParameterTypes()) {
            text.append(comma).append(parameter.getName());
            comma = ", ";
        }
        text.append(')');
        for (Class<?> thrown : method.getExceptionTypes()) {
            text.append(' ').append(thrown.getSimpleName());
        }
        return text.toString();
    }
}

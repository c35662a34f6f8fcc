import java.lang.reflect.Constructor;
import java.lang.reflect.Field;
import java.lang.reflect.Method;
import java.lang.reflect.Modifier;
import java.util.ArrayList;
import java.util.List;
import java.util.TreeSet;

/** The public face is the document's, and nothing else of the class can be seen from outside. */
public final class FaceTest {
    private static final String ILLEGAL = "IllegalArgumentException";
    private static final String STATE = "IllegalStateException";
    private static final String INDEX = "IndexOutOfBoundsException";

    public static void main(String[] args) {
        TreeSet<String> want = new TreeSet<>(List.of(
            "int kind(int,int)" + List.of(ILLEGAL, STATE),
            "int put(int)" + List.of(INDEX, STATE),
            "boolean take(int)" + List.of(INDEX, STATE),
            "int sweep()[]",
            "int pack(int)" + List.of(INDEX),
            "int told(int,int)" + List.of(INDEX),
            "int tray(int,int)" + List.of(INDEX),
            "int cell(int,int)" + List.of(INDEX),
            "int about(int,int)" + List.of(INDEX),
            "int count(int)" + List.of(INDEX),
            "int would(int)" + List.of(INDEX),
            "int spares(int)" + List.of(INDEX),
            "int room(int)" + List.of(INDEX),
            "int worst()[]",
            "double mean()[]",
            "long digest()[]"));
        TreeSet<String> got = new TreeSet<>();
        TreeSet<String> publicNames = new TreeSet<>();
        TreeSet<String> privateNames = new TreeSet<>();
        for (Method method : CellTrays.class.getDeclaredMethods()) {
            if (Modifier.isPrivate(method.getModifiers())) {
                privateNames.add(method.getName());
            } else {
                publicNames.add(method.getName());
                got.add(told(method));
            }
        }
        Check.due("the methods", want, () -> got);
        privateNames.retainAll(publicNames);
        Check.due("private methods with a public one's name", "[]", () -> privateNames);
        for (Field field : CellTrays.class.getDeclaredFields()) {
            boolean isPrivate = Modifier.isPrivate(field.getModifiers());
            Check.due("private: " + field.getName(), true, () -> isPrivate);
        }
        Constructor<?>[] made = CellTrays.class.getDeclaredConstructors();
        Check.due("constructors", 1, () -> made.length);
        Check.due("constructor", "public CellTrays()", () -> made[0]);
        int modifiers = CellTrays.class.getModifiers();
        Check.due("the class", "public final", () -> Modifier.toString(modifiers));
        Check.end();
    }

    private static String told(Method method) {
        List<String> parameters = new ArrayList<>();
        for (Class<?> parameter : method.getParameterTypes()) {
            parameters.add(parameter.getSimpleName());
        }
        List<String> exceptions = new ArrayList<>();
        for (Class<?> exception : method.getExceptionTypes()) {
            exceptions.add(exception.getSimpleName());
        }
        return method.getReturnType().getSimpleName() + " " + method.getName()
            + "(" + String.join(",", parameters) + ")" + exceptions;
    }
}

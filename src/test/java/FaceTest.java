import java.lang.reflect.Constructor;
import java.lang.reflect.Field;
import java.lang.reflect.Method;
import java.lang.reflect.Modifier;
import java.util.Arrays;
import java.util.TreeSet;

/** Rule 1 of LANGUAGE.md: the document's face and no other member that can be seen. */
public final class FaceTest {
    private static final String[] FACE = {
        "area(int, int, int, int, boolean) void",
        "pend(int, boolean) void",
        "put(int, int) void",
        "rank(int, int, boolean) void",
        "register(int) int",
        "run(int) int",
        "set(int, int) void",
        "state(int) int",
        "word(int) int",
    };

    public static void main(String[] args) {
        Check check = new Check();
        Class<NestedCore> face = NestedCore.class;
        check.same("public and final", face.getModifiers(), Modifier.PUBLIC | Modifier.FINAL);
        methods(check, face);
        Constructor<?>[] constructors = face.getDeclaredConstructors();
        check.same("constructors", constructors.length, 1);
        check.same("the constructor is public", constructors[0].getModifiers(), Modifier.PUBLIC);
        check.same("its parameters", constructors[0].getParameterCount(), 0);
        for (Field field : face.getDeclaredFields()) {
            check.same(field.getName() + " is private", Modifier.isPrivate(field.getModifiers()) ? 1 : 0, 1);
        }
        check.end();
    }

    private static void methods(Check check, Class<?> face) {
        TreeSet<String> seen = new TreeSet<>();
        TreeSet<String> names = new TreeSet<>();
        for (Method method : face.getDeclaredMethods()) {
            if (!Modifier.isPrivate(method.getModifiers())) {
                seen.add(signature(method));
                names.add(method.getName());
            }
        }
        for (Method method : face.getDeclaredMethods()) {
            boolean hidden = Modifier.isPrivate(method.getModifiers());
            check.same(method.getName() + " bears a public name", hidden && names.contains(method.getName()) ? 1 : 0, 0);
        }
        check.same("the face is " + seen, seen.equals(new TreeSet<>(Arrays.asList(FACE))) ? 1 : 0, 1);
    }

    private static String signature(Method method) {
        String parameters = Arrays.toString(method.getParameterTypes());
        String inner = parameters.substring(1, parameters.length() - 1);
        return method.getName() + "(" + inner + ") " + method.getReturnType();
    }
}

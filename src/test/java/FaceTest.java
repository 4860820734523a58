import java.lang.reflect.Constructor;
import java.lang.reflect.Field;
import java.lang.reflect.Method;
import java.lang.reflect.Modifier;
import java.util.Arrays;
import java.util.Set;
import java.util.TreeSet;

/** The face is the document's, and nothing else is seen from outside. */
public final class FaceTest {
    private static final Set<String> FACE = Set.of(
            "int feed[long, int] [IllegalArgumentException, IllegalStateException]",
            "int load[] [IllegalArgumentException]",
            "int place[] []",
            "int run[int] [IllegalArgumentException, IllegalStateException]",
            "int steps[] []",
            "int printed[] []",
            "int print[int] [IndexOutOfBoundsException]",
            "int word[int, int] [IllegalArgumentException]",
            "int records[] []");

    public static void main(String[] arguments) {
        Checks checks = new Checks("FaceTest");
        Class<?> face = ArrayRecords.class;
        checks.holds("public and final", Modifier.isPublic(face.getModifiers()) && Modifier.isFinal(face.getModifiers()));
        Set<String> methods = new TreeSet<>();
        for (Method method : face.getDeclaredMethods()) {
            if (Modifier.isPublic(method.getModifiers())) {
                methods.add(told(method));
            } else {
                checks.holds(method + " is private", Modifier.isPrivate(method.getModifiers()));
            }
        }
        checks.compare("methods", new TreeSet<>(FACE).toString(), methods.toString());
        for (Field field : face.getDeclaredFields()) {
            checks.holds(field + " is private", Modifier.isPrivate(field.getModifiers()));
        }
        Constructor<?>[] constructors = face.getDeclaredConstructors();
        checks.holds("one constructor, public, without parameters", constructors.length == 1
                && Modifier.isPublic(constructors[0].getModifiers()) && constructors[0].getParameterCount() == 0);
        for (Class<?> inside : face.getDeclaredClasses()) {
            checks.holds(inside + " is private and static",
                    Modifier.isPrivate(inside.getModifiers()) && Modifier.isStatic(inside.getModifiers()));
        }
        checks.end();
    }

    private static String told(Method method) {
        return method.getReturnType() + " " + method.getName() + names(method.getParameterTypes()) + " "
                + names(method.getExceptionTypes());
    }

    private static String names(Class<?>[] types) {
        return Arrays.toString(Arrays.stream(types).map(Class::getSimpleName).toArray());
    }
}

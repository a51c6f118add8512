import java.lang.reflect.Constructor;
import java.lang.reflect.Field;
import java.lang.reflect.Method;
import java.lang.reflect.Modifier;
import java.util.Arrays;
import java.util.TreeSet;

/** The class shows the document's face and nothing besides. */
public final class FaceTest {
    private static final String[] DUE = {
        "int come(int, int, int, int) IllegalArgumentException IllegalStateException",
        "int go(int) IndexOutOfBoundsException IllegalStateException",
        "int told(int, int) IndexOutOfBoundsException",
        "int way(int, int) IndexOutOfBoundsException",
        "int overlaps(int, int, int, int) IllegalArgumentException",
        "int looks(int, int, int, int) IllegalArgumentException",
        "int nearest(int, int) IllegalArgumentException",
        "int count(int) IndexOutOfBoundsException",
        "int grows(int, int, int, int) IllegalArgumentException",
        "int splits(int, int, int, int) IllegalArgumentException",
        "double mean()",
        "long digest()",
    };

    private FaceTest() {
    }

    public static void main(String[] arguments) {
        TreeSet<String> shown = new TreeSet<>();
        TreeSet<String> names = new TreeSet<>();
        for (Method method : NestedFrames.class.getDeclaredMethods()) {
            if (!Modifier.isPrivate(method.getModifiers())) {
                Check.isTrue(method + " is not public, or static",
                    Modifier.isPublic(method.getModifiers()) && !Modifier.isStatic(method.getModifiers()));
                shown.add(lineOf(method));
                names.add(method.getName());
            }
        }
        TreeSet<String> due = new TreeSet<>(Arrays.asList(DUE));
        Check.isTrue("the face is " + shown + ", due is " + due, shown.equals(due));
        for (Method method : NestedFrames.class.getDeclaredMethods()) {
            Check.isTrue(method + " bears the name of a public one",
                !Modifier.isPrivate(method.getModifiers()) || !names.contains(method.getName()));
        }
        for (Field field : NestedFrames.class.getDeclaredFields()) {
            Check.isTrue(field + " is not private", Modifier.isPrivate(field.getModifiers()));
        }
        Constructor<?>[] constructors = NestedFrames.class.getDeclaredConstructors();
        Check.isTrue("one public constructor without parameters", constructors.length == 1
            && Modifier.isPublic(constructors[0].getModifiers()) && constructors[0].getParameterCount() == 0);
        int modifiers = NestedFrames.class.getModifiers();
        Check.isTrue("the class is public and final", Modifier.isPublic(modifiers) && Modifier.isFinal(modifiers));
        Check.end("FaceTest");
    }

    private static String lineOf(Method method) {
        StringBuilder line = new StringBuilder();
        line.append(method.getReturnType().getSimpleName()).append(' ').append(method.getName()).append('(');
        for (Class<?> parameter : method.getParameterTypes()) {
            line.append(line.charAt(line.length() - 1) == '(' ? "" : ", ").append(parameter.getSimpleName());
        }
        line.append(')');
        for (Class<?> thrown : method.getExceptionTypes()) {
            line.append(' ').append(thrown.getSimpleName());
        }
        return line.toString();
    }
}

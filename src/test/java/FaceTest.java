import java.lang.reflect.Field;
import java.lang.reflect.Method;
import java.lang.reflect.Modifier;
import java.util.Arrays;
import java.util.TreeSet;

/** The public face: what the document lists, and nothing else that can be seen from outside. */
public final class FaceTest {
    public static void main(String[] args) {
        Checks checks = new Checks("face");
        TreeSet<String> seen = new TreeSet<>();
        for (Method method : ReelReader.class.getDeclaredMethods()) {
            if (!Modifier.isPrivate(method.getModifiers())) {
                seen.add(Modifier.toString(method.getModifiers()) + " " + method.getReturnType() + " "
                        + method.getName() + Arrays.toString(method.getParameterTypes())
                        + Arrays.toString(method.getExceptionTypes()));
            }
        }
        for (Field field : ReelReader.class.getDeclaredFields()) {
            if (!Modifier.isPrivate(field.getModifiers())) {
                seen.add(Modifier.toString(field.getModifiers()) + " " + field.getType() + " " + field.getName());
            }
        }
        String none = "[class java.util.NoSuchElementException]";
        TreeSet<String> wanted = new TreeSet<>(Arrays.asList(
                "public static final int NONE",
                "public int feed[int, int, int, int, int][]",
                "public boolean end[int][]",
                "public int bits[int, int][]",
                "public int read[][]",
                "public int wrong[][]",
                "public int look[int]" + none,
                "public int shown[int, int]" + none,
                "public int dot[int, int, int, int][]",
                "public int sum[int, int][]"));
        if (!seen.equals(wanted)) {
            System.out.println("face: " + seen + "\n due is " + wanted);
        }
        checks.due("the members", seen.equals(wanted), true);
        checks.due("the class", ReelReader.class.getModifiers(), Modifier.PUBLIC | Modifier.FINAL);
        checks.due("its constructors", ReelReader.class.getConstructors().length, 1);
        checks.due("all of its constructors", ReelReader.class.getDeclaredConstructors().length, 1);
        for (Class<?> inside : ReelReader.class.getDeclaredClasses()) {
            int modifiers = inside.getModifiers();
            checks.due(inside + " is static", Modifier.isStatic(modifiers), true);
            checks.due(inside + " can be seen", Modifier.isPublic(modifiers) || Modifier.isProtected(modifiers), false);
        }
        checks.due("NONE", ReelReader.NONE, -1);
        checks.finish();
    }
}

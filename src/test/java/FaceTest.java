import java.lang.reflect.Constructor;
import java.lang.reflect.Field;
import java.lang.reflect.Method;
import java.lang.reflect.Modifier;
import java.util.Arrays;
import java.util.TreeSet;

/** The class shows the document's face and nothing else (LANGUAGE.md, rule 1). */
public final class FaceTest {
    private static final String[] FACE = {
        "public static final int NONE",
        "public DelayedExtents[]",
        "public void write[int, int, int] [IndexOutOfBoundsException, IllegalStateException, UnsupportedOperationException]",
        "public int read[int, int] [IndexOutOfBoundsException]",
        "public int preallocate[int, int, int] [IndexOutOfBoundsException, IllegalArgumentException, UnsupportedOperationException]",
        "public int punch[int, int, int] [IndexOutOfBoundsException, IllegalArgumentException]",
        "public int truncate[int, int] [IndexOutOfBoundsException, IllegalArgumentException]",
        "public int flush[int] [IndexOutOfBoundsException]",
        "public int crash[] []",
        "public int extent[int, int, int] [IndexOutOfBoundsException, IllegalArgumentException]",
        "public int about[int, int] [IndexOutOfBoundsException, IllegalArgumentException]",
        "public int free[] []",
        "public int reserved[] []",
        "public int owner[int] [IndexOutOfBoundsException]",
        "public int value[int] [IndexOutOfBoundsException]",
    };

    public static void main(String[] args) {
        Check check = new Check();
        check.part("face");
        check.due("the visible members", visibleMembers().toString(), new TreeSet<>(Arrays.asList(FACE)).toString());
        check.due("NONE", DelayedExtents.NONE, -1);
        check.due("public and final", Modifier.toString(DelayedExtents.class.getModifiers()), "public final");
        check.due("what it extends", DelayedExtents.class.getSuperclass().getSimpleName(), "Object");
        check.due("what it implements", names(DelayedExtents.class.getInterfaces()), "[]");
        check.end();
    }

    private static TreeSet<String> visibleMembers() {
        TreeSet<String> members = new TreeSet<>();
        for (Field f : DelayedExtents.class.getDeclaredFields()) {
            if (!Modifier.isPrivate(f.getModifiers())) {
                members.add(Modifier.toString(f.getModifiers()) + " " + f.getType() + " " + f.getName());
            }
        }
        for (Constructor<?> c : DelayedExtents.class.getDeclaredConstructors()) {
            members.add(Modifier.toString(c.getModifiers()) + " " + c.getName() + names(c.getParameterTypes()));
        }
        for (Method m : DelayedExtents.class.getDeclaredMethods()) {
            if (!Modifier.isPrivate(m.getModifiers()) && !m.isSynthetic()) {
                members.add(Modifier.toString(m.getModifiers()) + " " + m.getReturnType() + " " + m.getName()
                        + names(m.getParameterTypes()) + " " + names(m.getExceptionTypes()));
            }
        }
        return members;
    }

    private static String names(Class<?>[] types) {
        return Arrays.toString(Arrays.stream(types).map(Class::getSimpleName).toArray());
    }
}

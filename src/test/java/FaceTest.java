import java.lang.reflect.Constructor;
import java.lang.reflect.Field;
import java.lang.reflect.Method;
import java.lang.reflect.Modifier;
import java.util.Arrays;
import java.util.TreeSet;

/** The class shows the document's face and nothing else (LANGUAGE.md, rule 1). */
public final class FaceTest {
    private static final String[] FACE = {
        "NONE int",
        "about int [int, int] [IndexOutOfBoundsException, IllegalArgumentException]",
        "crash int [] []",
        "extent int [int, int, int] [IndexOutOfBoundsException, IllegalArgumentException]",
        "flush int [int] [IndexOutOfBoundsException]",
        "free int [] []",
        "new []",
        "owner int [int] [IndexOutOfBoundsException]",
        "preallocate int [int, int, int] [IndexOutOfBoundsException, IllegalArgumentException, UnsupportedOperationException]",
        "punch int [int, int, int] [IndexOutOfBoundsException, IllegalArgumentException]",
        "read int [int, int] [IndexOutOfBoundsException]",
        "reserved int [] []",
        "truncate int [int, int] [IndexOutOfBoundsException, IllegalArgumentException]",
        "value int [int] [IndexOutOfBoundsException]",
        "write void [int, int, int] [IndexOutOfBoundsException, IllegalStateException, UnsupportedOperationException]",
    };

    public static void main(String[] args) {
        Check check = new Check();
        check.part("face");
        check.due("the visible members", visibleMembers().toString(), new TreeSet<>(Arrays.asList(FACE)).toString());
        check.due("NONE", DelayedExtents.NONE, -1);
        check.due("public and final", Modifier.toString(DelayedExtents.class.getModifiers()), "public final");
        check.end();
    }

    private static TreeSet<String> visibleMembers() {
        TreeSet<String> members = new TreeSet<>();
        for (Field f : DelayedExtents.class.getDeclaredFields()) {
            if (!Modifier.isPrivate(f.getModifiers())) {
                members.add(f.getName() + " " + f.getType());
            }
        }
        for (Constructor<?> c : DelayedExtents.class.getDeclaredConstructors()) {
            members.add("new " + names(c.getParameterTypes()));
        }
        for (Method m : DelayedExtents.class.getDeclaredMethods()) {
            if (!Modifier.isPrivate(m.getModifiers()) && !m.isSynthetic()) {
                members.add(m.getName() + " " + m.getReturnType() + " " + names(m.getParameterTypes())
                        + " " + names(m.getExceptionTypes()));
            }
        }
        return members;
    }

    private static String names(Class<?>[] types) {
        return Arrays.toString(Arrays.stream(types).map(Class::getSimpleName).toArray());
    }
}

import java.lang.reflect.Constructor;
import java.lang.reflect.Field;
import java.lang.reflect.Method;
import java.lang.reflect.Modifier;
import java.util.Arrays;
import java.util.Set;
import java.util.TreeSet;

/** The public face: just the members that the document names, and nothing else that is not private. */
public final class FaceTest {
    private static final Check check = new Check();

    public static void main(String[] args) throws NoSuchFieldException {
        Class<?> face = PrefetchRules.class;
        isDue("public and final", Modifier.isPublic(face.getModifiers()) && Modifier.isFinal(face.getModifiers()));
        methods(face);
        constructors(face);
        fields(face);
        for (Class<?> inside : face.getDeclaredClasses()) {
            int m = inside.getModifiers();
            isDue(inside + " static and not public",
                    Modifier.isStatic(m) && !Modifier.isPublic(m) && !Modifier.isProtected(m));
        }
        check.due("NONE", PrefetchRules.NONE, -1);
        check.end();
    }

    private static void isDue(String what, boolean holds) {
        check.due(what, holds ? 1 : 0, 1);
    }

    private static void methods(Class<?> face) {
        Set<String> seen = new TreeSet<>();
        for (Method m : face.getDeclaredMethods()) {
            if (!Modifier.isPrivate(m.getModifiers()) && !m.isSynthetic()) {
                seen.add(Modifier.toString(m.getModifiers()) + " " + m.getReturnType() + " " + m.getName()
                        + Arrays.toString(m.getParameterTypes()) + Arrays.toString(m.getExceptionTypes()));
            }
        }
        String illegal = "[class java.lang.IllegalArgumentException]";
        String outOfBounds = "[class java.lang.IndexOutOfBoundsException]";
        Set<String> due = new TreeSet<>(Set.of(
                "public int access[int, int][]", "public int pass[int]" + illegal, "public int finish[][]",
                "public int state[int][]", "public int stored[int]" + outOfBounds,
                "public int queued[int, int]" + outOfBounds, "public int known[int][]",
                "public int trust[int][]", "public int count[int][]"));
        isDue("methods " + seen, seen.equals(due));
    }

    private static void constructors(Class<?> face) {
        Constructor<?>[] all = face.getDeclaredConstructors();
        check.due("constructors", all.length, 1);
        isDue("constructor " + all[0], Modifier.isPublic(all[0].getModifiers())
                && Arrays.equals(all[0].getParameterTypes(), new Class<?>[] {int.class, int.class, int.class, int.class}));
    }

    private static void fields(Class<?> face) {
        for (Field f : face.getDeclaredFields()) {
            String modifiers = Modifier.toString(f.getModifiers());
            boolean isNone = f.getName().equals("NONE") && f.getType() == int.class
                    && modifiers.equals("public static final");
            isDue("field " + f, isNone || Modifier.isPrivate(f.getModifiers()));
            isDue("field " + f + " final, if static", !modifiers.contains("static") || modifiers.contains("final"));
        }
    }
}

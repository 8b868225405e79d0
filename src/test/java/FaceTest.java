import java.lang.reflect.Constructor;
import java.lang.reflect.Field;
import java.lang.reflect.Method;
import java.lang.reflect.Modifier;
import java.util.Arrays;
import java.util.TreeSet;

/** The face is the document's, and nothing else can be seen from outside. */
public final class FaceTest {
    private static final Check CHECK = new Check();
    private static final String STATE = "IllegalStateException";
    private static final String INDEX = "IndexOutOfBoundsException";
    private static final String ARGUMENT = "IllegalArgumentException";

    public static void main(String[] args) {
        TreeSet<String> due = new TreeSet<>(Arrays.asList(
                "int NONE",
                "PageParts(int, int)",
                "boolean put(int, int, boolean) " + INDEX,
                "int fill(int, int, int, int, boolean) " + INDEX + " " + ARGUMENT,
                "int noise(int) " + ARGUMENT,
                "int run(int, int) " + ARGUMENT,
                "int part(int, int) " + STATE + " " + INDEX + " " + ARGUMENT,
                "int partOf(int, int) " + STATE + " " + INDEX,
                "int line(int, int, int) " + STATE + " " + INDEX + " " + ARGUMENT,
                "int order(int) " + STATE + " " + INDEX,
                "int cover(int, int) " + STATE + " " + INDEX + " " + ARGUMENT,
                "int strip(int) " + STATE + " " + INDEX,
                "int cell(int, int) " + STATE + " " + INDEX + " " + ARGUMENT,
                "boolean isSpeck(int, int) " + STATE + " " + INDEX,
                "int told(int)",
                "void clear()"));
        CHECK.same("the face", String.join("\n", due), String.join("\n", face()));
        CHECK.same("the class is public and final", Modifier.PUBLIC | Modifier.FINAL, PageParts.class.getModifiers());
        for (Class<?> inside : PageParts.class.getDeclaredClasses()) {
            CHECK.same(inside.getSimpleName() + " is static", true, Modifier.isStatic(inside.getModifiers()));
            CHECK.same(inside.getSimpleName() + " is not public", false, Modifier.isPublic(inside.getModifiers()));
        }
        CHECK.end();
    }

    private static TreeSet<String> face() {
        TreeSet<String> seen = new TreeSet<>();
        for (Field field : PageParts.class.getDeclaredFields()) {
            if (!Modifier.isPrivate(field.getModifiers())) {
                seen.add(field.getType().getSimpleName() + " " + field.getName());
            }
        }
        for (Constructor<?> one : PageParts.class.getDeclaredConstructors()) {
            if (!Modifier.isPrivate(one.getModifiers())) {
                seen.add("PageParts(" + names(one.getParameterTypes(), ", ") + ")");
            }
        }
        for (Method one : PageParts.class.getDeclaredMethods()) {
            if (!Modifier.isPrivate(one.getModifiers()) && !one.isSynthetic()) {
                String text = one.getReturnType().getSimpleName() + " " + one.getName()
                        + "(" + names(one.getParameterTypes(), ", ") + ") " + names(one.getExceptionTypes(), " ");
                seen.add(text.trim());
            }
        }
        return seen;
    }

    private static String names(Class<?>[] types, String between) {
        String[] names = new String[types.length];
        for (int i = 0; i < types.length; i++) {
            names[i] = types[i].getSimpleName();
        }
        return String.join(between, names);
    }
}

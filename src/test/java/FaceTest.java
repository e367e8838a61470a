import java.lang.reflect.Constructor;
import java.lang.reflect.Field;
import java.lang.reflect.Method;
import java.lang.reflect.Modifier;
import java.util.Arrays;
import java.util.Set;
import java.util.TreeSet;

/** The public face: just what the document lists, and rule 1 of LANGUAGE.md. */
public final class FaceTest {
    private static final String[] FACE = {
        "boolean alike()", "boolean poke(int, int, int)", "boolean unit(int, int)", "int about(int, int)",
        "int byteAt(int, int)", "int clear(int)", "int letter(int, int)",
        "int read(int, int, int) IllegalArgumentException IndexOutOfBoundsException IllegalStateException",
        "int sum(int)", "int write(int, int, int) IllegalArgumentException IndexOutOfBoundsException",
        "long seconds(int, int)"};

    public static void main(String[] args) {
        Class<?> face = LongNames.class;
        Checks.due("modifiers", face.getModifiers(), Modifier.PUBLIC | Modifier.FINAL);
        methods(face);
        fields(face);
        Constructor<?>[] made = face.getDeclaredConstructors();
        Checks.due("constructors", made.length, 1);
        Checks.due("constructor", made[0].getModifiers() == Modifier.PUBLIC && made[0].getParameterCount() == 0, true);
        for (Class<?> inside : face.getDeclaredClasses()) {
            int modifiers = inside.getModifiers();
            Checks.due(inside + " is static", Modifier.isStatic(modifiers), true);
            Checks.due(inside + " is not public", (modifiers & (Modifier.PUBLIC | Modifier.PROTECTED)) == 0, true);
        }
        Checks.finish();
    }

    private static void methods(Class<?> face) {
        Set<String> seen = new TreeSet<>();
        Set<String> names = new TreeSet<>();
        for (Method m : face.getDeclaredMethods()) {
            if (Modifier.isPublic(m.getModifiers())) {
                seen.add(signature(m));
                names.add(m.getName());
            }
        }
        Checks.due("the face", seen.toString(), new TreeSet<>(Arrays.asList(FACE)).toString());
        for (Method m : face.getDeclaredMethods()) {
            if (!Modifier.isPublic(m.getModifiers())) {
                Checks.due(m + " is private", Modifier.isPrivate(m.getModifiers()), true);
                Checks.due(m + " has a public one's name", names.contains(m.getName()), false);
            }
        }
    }

    private static String signature(Method m) {
        StringBuilder text = new StringBuilder(m.getReturnType() + " " + m.getName() + "(");
        String comma = "";
        for (Class<?> parameter : m.getParameterTypes()) {
            text.append(comma).append(parameter);
            comma = ", ";
        }
        text.append(")");
        for (Class<?> thrown : m.getExceptionTypes()) {
            text.append(" ").append(thrown.getSimpleName());
        }
        return text.toString();
    }

    private static void fields(Class<?> face) {
        int open = 0;
        for (Field f : face.getDeclaredFields()) {
            if (!Modifier.isPrivate(f.getModifiers())) {
                open++;
                Checks.due("public field", f.toString(), "public static final int LongNames.NONE");
            }
        }
        Checks.due("public fields", open, 1);
    }
}

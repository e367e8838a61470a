import java.lang.reflect.Constructor;
import java.lang.reflect.Field;
import java.lang.reflect.Method;
import java.lang.reflect.Modifier;
import java.util.Arrays;
import java.util.Set;
import java.util.TreeSet;

/** The public face: just what the document lists, and rule 1 of LANGUAGE.md. */
public final class FaceTest {
    private static final String[] FACE = {
        "boolean alike()", "boolean poke(int, int, int)", "boolean unit(int, int)", "int about(int, int)",
        "int byteAt(int, int)", "int clear(int)", "int letter(int, int)",
        "int read(int, int, int) IllegalArgumentException IndexOutOfBoundsException IllegalStateException",
        "int sum(int)", "int write(int, int, int) IllegalArgumentException IndexOutOfBoundsException",
        "long seconds(int, int)"};

    private static final Class<LongNames> OURS = LongNames.class;

    public static void main(String[] args) {
        Checks.sentence("public final class LongNames", FaceTest::itself);
        Checks.sentence("public LongNames();", FaceTest::constructors);
        Checks.sentence("The public face", FaceTest::methods);
        Checks.sentence("public static final int NONE = -1;", FaceTest::fields);
        Checks.sentence("LANGUAGE.md 1: the classes inside it, which are private or package-visible and static", FaceTest::inside);
        Checks.finish();
    }

    private static void dueTrue(String what, boolean got) {
        Checks.due(what, got ? 1 : 0, 1);
    }

    private static void itself() {
        Checks.due("modifiers", OURS.getModifiers(), Modifier.PUBLIC | Modifier.FINAL);
        dueTrue("no class above it but Object", OURS.getSuperclass() == Object.class && OURS.getInterfaces().length == 0);
    }

    private static void constructors() {
        Constructor<?>[] made = OURS.getDeclaredConstructors();
        Checks.due("constructors", made.length, 1);
        dueTrue("constructor", made[0].getModifiers() == Modifier.PUBLIC && made[0].getParameterCount() == 0);
    }

    private static void inside() {
        for (Class<?> inside : OURS.getDeclaredClasses()) {
            int modifiers = inside.getModifiers();
            dueTrue(inside + " is static", Modifier.isStatic(modifiers));
            dueTrue(inside + " is not public", (modifiers & (Modifier.PUBLIC | Modifier.PROTECTED)) == 0);
        }
    }

    private static void methods() {
        Set<String> seen = new TreeSet<>();
        Set<String> names = new TreeSet<>();
        for (Method m : OURS.getDeclaredMethods()) {
            if (Modifier.isPublic(m.getModifiers())) {
                seen.add(signature(m));
                names.add(m.getName());
            }
        }
        Checks.due("the face", seen.toString(), new TreeSet<>(Arrays.asList(FACE)).toString());
        for (Method m : OURS.getDeclaredMethods()) {
            if (!Modifier.isPublic(m.getModifiers())) {
                dueTrue(m + " is private", Modifier.isPrivate(m.getModifiers()));
                dueTrue(m + " has no public one's name", !names.contains(m.getName()));
            }
        }
    }

    private static String signature(Method m) {
        StringBuilder text = new StringBuilder(m.getReturnType() + " " + m.getName() + "(");
        String comma = "";
        for (Class<?> parameter : m.getParameterTypes()) {
            text.append(comma).append(parameter);
            comma = ", ";
        }
        text.append(")");
        for (Class<?> thrown : m.getExceptionTypes()) {
            text.append(" ").append(thrown.getSimpleName());
        }
        return text.toString();
    }

    private static void fields() {
        int open = 0;
        Checks.due("NONE", LongNames.NONE, -1);
        for (Field f : OURS.getDeclaredFields()) {
            if (!Modifier.isPrivate(f.getModifiers())) {
                open++;
                Checks.due("public field", f.toString(), "public static final int LongNames.NONE");
            }
        }
        Checks.due("public fields", open, 1);
    }
}

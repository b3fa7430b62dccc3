import java.lang.reflect.Constructor;
import java.lang.reflect.Field;
import java.lang.reflect.Method;
import java.lang.reflect.Modifier;
import java.util.Arrays;
import java.util.Set;
import java.util.TreeSet;

/** The public face of the document, and nothing beside it that others can see. */
public final class FaceTest {
    private static final Set<String> FACE = new TreeSet<>(Arrays.asList(
            "public static final int NONE",
            "public EncodingChecks(int)",
            "public int encoding(long, long) IllegalArgumentException UnsupportedOperationException",
            "public boolean condition(int, int, int, int, int) IndexOutOfBoundsException "
                    + "IllegalArgumentException UnsupportedOperationException",
            "public int operand(int, int, int) IndexOutOfBoundsException IllegalArgumentException",
            "public int needs(int, int) IndexOutOfBoundsException IllegalArgumentException",
            "public int clear()",
            "public int pairs()",
            "public int pair(int, int) IndexOutOfBoundsException",
            "public int alias(int, int) IndexOutOfBoundsException",
            "public int clashes(int) IllegalArgumentException",
            "public int worst()",
            "public int meaningless(int) IndexOutOfBoundsException",
            "public int idle(int, int) IndexOutOfBoundsException IllegalArgumentException",
            "public int count(int) IndexOutOfBoundsException",
            "public int gaps()",
            "public int blocks(int) IndexOutOfBoundsException",
            "public int block(int, int, int) IndexOutOfBoundsException IllegalArgumentException",
            "public int decode(int) IllegalArgumentException",
            "public int order(int) IndexOutOfBoundsException",
            "public int size(int)"));

    public static void main(String[] args) {
        Checks checks = new Checks();
        checks.same("the face", FACE, visibleMembers());
        checks.same("the class", "public final", Modifier.toString(EncodingChecks.class.getModifiers()));
        checks.same("private methods with a public name", new TreeSet<String>(), privateNamesakes());
        checks.end();
    }

    private static Set<String> visibleMembers() {
        Set<String> seen = new TreeSet<>();
        for (Field f : EncodingChecks.class.getDeclaredFields()) {
            if (!Modifier.isPrivate(f.getModifiers())) {
                seen.add(Modifier.toString(f.getModifiers()) + " " + f.getType().getSimpleName() + " " + f.getName());
            }
        }
        for (Constructor<?> c : EncodingChecks.class.getDeclaredConstructors()) {
            seen.add((Modifier.toString(c.getModifiers()) + " EncodingChecks" + types("(", ", ", ")", c.getParameterTypes())));
        }
        for (Method m : EncodingChecks.class.getDeclaredMethods()) {
            if (!Modifier.isPrivate(m.getModifiers())) {
                seen.add((Modifier.toString(m.getModifiers()) + " " + m.getReturnType().getSimpleName() + " "
                        + m.getName() + types("(", ", ", ")", m.getParameterTypes())
                        + types(" ", " ", "", m.getExceptionTypes())).trim());
            }
        }
        return seen;
    }

    private static String types(String open, String between, String close, Class<?>[] types) {
        StringBuilder text = new StringBuilder(open);
        for (int i = 0; i < types.length; i++) {
            text.append(i == 0 ? "" : between).append(types[i].getSimpleName());
        }
        return text.append(close).toString();
    }

    private static Set<String> privateNamesakes() {
        Set<String> open = new TreeSet<>();
        Set<String> hidden = new TreeSet<>();
        for (Method m : EncodingChecks.class.getDeclaredMethods()) {
            (Modifier.isPrivate(m.getModifiers()) ? hidden : open).add(m.getName());
        }
        for (Class<?> inside : EncodingChecks.class.getDeclaredClasses()) {
            for (Method m : inside.getDeclaredMethods()) {
                hidden.add(m.getName());
            }
        }
        hidden.retainAll(open);
        return hidden;
    }
}

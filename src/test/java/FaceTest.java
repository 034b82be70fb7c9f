import java.lang.reflect.Field;
import java.lang.reflect.Method;
import java.lang.reflect.Modifier;
import java.util.Arrays;
import java.util.HashSet;
import java.util.Set;
import java.util.TreeSet;

/** The public face is the document's and no more. */
public final class FaceTest {
    private static final Checks CHECKS = new Checks();

    private static final String[] FACE = {
        "int reel(int, int)", "int picture(int, int, int)", "int at(int, int)", "int count(int, int)",
        "int lay(int)", "int pay(int, int, int, int)", "int clear()", "int lines(int)",
        "int ending(int, int, int)", "long all(int)", "int rows(int)", "int misses(int)",
        "long worth(int, int, int, int)", "int hold(int, int, int)", "int nudge(int, int, int, int, int)",
        "int change(int, int, int)", "int room(int)", "int fill(int)", "int play(int, int, int)",
        "int coins(int)", "long dry(int, int)", "int favoured(int)", "long odd(int)", "long digest()",
    };

    private static String told(Method m) {
        StringBuilder text = new StringBuilder(m.getReturnType().getName() + " " + m.getName() + "(");
        for (int i = 0; i < m.getParameterCount(); i++) {
            text.append(i == 0 ? "" : ", ").append(m.getParameterTypes()[i].getName());
        }
        return text.append(")").toString();
    }

    private static void methods() {
        Set<String> seen = new TreeSet<>();
        Set<String> names = new HashSet<>();
        for (Method m : ThreeReels.class.getDeclaredMethods()) {
            if (!Modifier.isPrivate(m.getModifiers()) && !m.isSynthetic()) {
                seen.add(told(m));
                names.add(m.getName());
                CHECKS.isTrue(m + " is public and no more", m.getModifiers() == Modifier.PUBLIC);
            }
        }
        CHECKS.isTrue("the face is as told: " + seen, seen.equals(new TreeSet<>(Arrays.asList(FACE))));
        privateNames(ThreeReels.class, names);
        for (Class<?> inside : ThreeReels.class.getDeclaredClasses()) {
            privateNames(inside, names);
            CHECKS.isTrue(inside + " is static", Modifier.isStatic(inside.getModifiers()));
        }
    }

    private static void privateNames(Class<?> of, Set<String> names) {
        for (Method m : of.getDeclaredMethods()) {
            boolean hidden = of != ThreeReels.class || Modifier.isPrivate(m.getModifiers());
            CHECKS.isTrue(m + " bears a name of its own", !hidden || !names.contains(m.getName()));
            CHECKS.isTrue(m + " takes seven at most", m.getParameterCount() <= 7);
        }
    }

    private static void fields() {
        Set<String> open = new TreeSet<>();
        for (Field f : ThreeReels.class.getDeclaredFields()) {
            if (!Modifier.isPrivate(f.getModifiers())) {
                open.add(f.getName());
                CHECKS.isTrue(f + " is a constant", f.getModifiers() == (Modifier.PUBLIC | Modifier.STATIC | Modifier.FINAL)
                    && f.getType() == int.class);
            }
        }
        CHECKS.isTrue("the constants are as told: " + open, open.equals(new TreeSet<>(Arrays.asList("NONE", "BAD", "NO", "FULL"))));
        CHECKS.due("NONE", ThreeReels.NONE, -1);
        CHECKS.due("BAD", ThreeReels.BAD, -2);
        CHECKS.due("NO", ThreeReels.NO, -3);
        CHECKS.due("FULL", ThreeReels.FULL, -4);
        CHECKS.isTrue("one public constructor", ThreeReels.class.getConstructors().length == 1
            && ThreeReels.class.getDeclaredConstructors().length == 1);
        CHECKS.isTrue("public and final", ThreeReels.class.getModifiers() == (Modifier.PUBLIC | Modifier.FINAL));
    }

    public static void main(String[] args) {
        methods();
        fields();
        CHECKS.finish();
    }
}

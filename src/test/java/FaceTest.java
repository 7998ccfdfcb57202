import java.lang.reflect.Constructor;
import java.lang.reflect.Field;
import java.lang.reflect.Method;
import java.lang.reflect.Modifier;
import java.util.Arrays;
import java.util.HashSet;
import java.util.List;
import java.util.Set;
import java.util.TreeSet;

/** The public face: all that the document lists, and no other member that is not private. */
public final class FaceTest {
    private static final String[] METHODS = {
        "int sample(int, int, int) IllegalArgumentException IllegalStateException",
        "int set(int, int, int) IndexOutOfBoundsException IllegalArgumentException",
        "double deep(int) IndexOutOfBoundsException",
        "int pin(int, int) IndexOutOfBoundsException IllegalArgumentException",
        "void drive(int, int) IllegalArgumentException",
        "int enter(int) IllegalArgumentException IllegalStateException",
        "int step()",
        "int avalanche()",
        "int whirlAt(int) IndexOutOfBoundsException",
        "int energy(int) IndexOutOfBoundsException",
        "int ring(int, int) IllegalArgumentException IllegalStateException",
        "int flux(int, int) IndexOutOfBoundsException IllegalArgumentException",
        "int warm(int) IndexOutOfBoundsException",
        "int ofRing(int, int) IndexOutOfBoundsException IllegalArgumentException",
        "int current(int) IllegalArgumentException",
        "int heat(int, int) IndexOutOfBoundsException IllegalArgumentException",
        "int pass(int) IllegalArgumentException",
        "int warmth(int) IndexOutOfBoundsException",
        "long ofCoil(int) IllegalArgumentException",
        "double share()",
        "void margins(int, int) IllegalArgumentException",
        "int pulse(int, int) IllegalArgumentException",
        "int bit(int) IndexOutOfBoundsException",
        "int point(int, int, int) IllegalArgumentException IllegalStateException",
        "int claim(int, int, int) IndexOutOfBoundsException IllegalArgumentException IllegalStateException",
        "int repeats(int, int, boolean) IndexOutOfBoundsException",
        "int judge(int, int) IndexOutOfBoundsException IllegalArgumentException",
    };
    private static final String[] CONSTANTS = {"NONE", "NORMAL", "MIXED", "MEISSNER", "THIN", "OPEN", "UNTOLD", "REFUSED", "PASSED"};

    public static void main(String[] args) {
        constants();
        methods();
        classes();
        Due.close();
    }

    private static void constants() {
        Due.same("NONE", Vortexpin.NONE, -1);
        Due.same("NORMAL", Vortexpin.NORMAL, 0);
        Due.same("MIXED", Vortexpin.MIXED, 1);
        Due.same("MEISSNER", Vortexpin.MEISSNER, 2);
        Due.same("THIN", Vortexpin.THIN, 0);
        Due.same("OPEN", Vortexpin.OPEN, 1);
        Due.same("UNTOLD", Vortexpin.UNTOLD, 2);
        Due.same("REFUSED", Vortexpin.REFUSED, 3);
        Due.same("PASSED", Vortexpin.PASSED, 4);
        Set<String> open = new TreeSet<>();
        for (Field f : Vortexpin.class.getDeclaredFields()) {
            if (!Modifier.isPrivate(f.getModifiers())) {
                Due.sameText("kind of " + f.getName(), Modifier.toString(f.getModifiers()) + " " + f.getType(), "public static final int");
                open.add(f.getName());
            }
        }
        Due.sameText("the constants", open.toString(), new TreeSet<>(Arrays.asList(CONSTANTS)).toString());
    }

    private static void methods() {
        Set<String> open = new TreeSet<>();
        Set<String> names = new HashSet<>();
        for (Method m : Vortexpin.class.getDeclaredMethods()) {
            if (!Modifier.isPrivate(m.getModifiers())) {
                Due.sameText("kind of " + m.getName(), Modifier.toString(m.getModifiers()), "public");
                open.add(signature(m));
                names.add(m.getName());
            }
        }
        Due.sameText("the methods", open.toString(), new TreeSet<>(Arrays.asList(METHODS)).toString());
        List<Class<?>> all = Arrays.asList(Vortexpin.class.getDeclaredClasses());
        for (Method m : Vortexpin.class.getDeclaredMethods()) {
            Due.same(m.getName() + " is public or has a name of its own",
                Modifier.isPublic(m.getModifiers()) || !names.contains(m.getName()) ? 1 : 0, 1);
        }
        for (Class<?> inside : all) {
            for (Method m : inside.getDeclaredMethods()) {
                Due.same(inside.getSimpleName() + "." + m.getName() + " has a name of its own", names.contains(m.getName()) ? 0 : 1, 1);
            }
        }
        for (Constructor<?> c : Vortexpin.class.getDeclaredConstructors()) {
            Due.sameText("the constructor", c.toString(), "public Vortexpin()");
        }
        Due.same("constructors", Vortexpin.class.getDeclaredConstructors().length, 1);
    }

    private static String signature(Method m) {
        StringBuilder text = new StringBuilder(m.getReturnType() + " " + m.getName() + "(");
        for (Class<?> type : m.getParameterTypes()) {
            text.append(text.charAt(text.length() - 1) == '(' ? "" : ", ").append(type);
        }
        text.append(")");
        for (Class<?> thrown : m.getExceptionTypes()) {
            text.append(" ").append(thrown.getSimpleName());
        }
        return text.toString();
    }

    private static void classes() {
        Due.sameText("the class", Modifier.toString(Vortexpin.class.getModifiers()), "public final");
        for (Class<?> inside : Vortexpin.class.getDeclaredClasses()) {
            int kind = inside.getModifiers();
            Due.same(inside + " is static, not public", Modifier.isStatic(kind) && !Modifier.isPublic(kind) ? 1 : 0, 1);
        }
    }
}

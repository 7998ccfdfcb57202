import java.io.IOException;
import java.lang.reflect.InvocationTargetException;
import java.lang.reflect.Method;
import java.lang.reflect.Modifier;
import java.nio.charset.StandardCharsets;
import java.nio.file.Files;
import java.nio.file.Path;
import java.util.TreeSet;
import java.util.regex.Matcher;
import java.util.regex.Pattern;

/**
 * README.md itself is read here, so that it can't go its own way: each call that it shows is made, and must answer
 * what stands behind it there; no line of its Java goes unread; and each call of the face is shown.
 */
public final class ReadmeTest {
    private static final String OBJECT = "Vortexpin x = new Vortexpin();";
    private static final Pattern CALL = Pattern.compile("(x\\.(\\w+)\\(([^()]*)\\);) +// ([^:]+)(: .+)?");
    private static final int PARTS = 6;

    private static final TreeSet<String> SHOWN = new TreeSet<>();
    private static int objects = 0;
    private static Vortexpin x;

    public static void main(String[] args) throws IOException, IllegalAccessException {
        boolean inJava = false;
        for (String line : Files.readAllLines(Path.of("README.md"), StandardCharsets.UTF_8)) {
            if (line.startsWith("```")) {
                inJava = line.equals("```java");
                x = null;
            } else if (inJava) {
                look(line);
            }
        }
        Due.same("parts of README.md with an object of their own", objects, PARTS);
        Due.sameText("the calls that README.md shows", SHOWN.toString(), face().toString());
        Due.close();
    }

    private static TreeSet<String> face() {
        TreeSet<String> names = new TreeSet<>();
        for (Method m : Vortexpin.class.getDeclaredMethods()) {
            if (Modifier.isPublic(m.getModifiers())) {
                names.add(m.getName());
            }
        }
        return names;
    }

    private static void look(String line) throws IllegalAccessException {
        Matcher call = CALL.matcher(line);
        if (line.equals(OBJECT)) {
            x = new Vortexpin();
            objects++;
        } else if (x != null && call.matches()) {
            SHOWN.add(call.group(2));
            Due.sameText(call.group(1) + " in README.md", answer(call.group(2), call.group(3)), call.group(4));
        } else {
            Due.sameText("a line of README.md", line, "an object made, or a call of it with its answer");
        }
    }

    private static String answer(String name, String told) throws IllegalAccessException {
        Method method = methodOf(name);
        String[] words = told.isEmpty() ? new String[0] : told.split(", ");
        if (method == null || words.length != method.getParameterCount()) {
            return "no call of the face";
        }
        Object[] numbers = new Object[words.length];
        for (int k = 0; k < words.length; k++) {
            numbers[k] = method.getParameterTypes()[k] == boolean.class ? (Object) words[k].equals("true") : (Object) Integer.valueOf(words[k]);
        }
        try {
            return named(name, method.invoke(x, numbers));
        } catch (InvocationTargetException e) {
            return "throws " + e.getCause().getClass().getSimpleName();
        }
    }

    private static Method methodOf(String name) {
        for (Method m : Vortexpin.class.getMethods()) {
            if (m.getDeclaringClass() == Vortexpin.class && m.getName().equals(name)) {
                return m;
            }
        }
        return null;
    }

    /** An answer as README.md writes it: by its name, where the document gives it one. */
    private static String named(String name, Object answer) {
        if (answer == null) {
            return "nothing";
        }
        String plain = answer.toString();
        switch (name) {
            case "set":
                return nameOf(plain, "NORMAL", "MIXED", "MEISSNER");
            case "judge":
                return nameOf(plain, "THIN", "OPEN", "UNTOLD", "REFUSED", "PASSED");
            case "enter":
            case "whirlAt":
                return plain.equals("-1") ? "NONE" : plain;
            default:
                return plain;
        }
    }

    private static String nameOf(String plain, String... names) {
        int number = Integer.parseInt(plain);
        return number >= 0 && number < names.length ? names[number] : plain;
    }
}

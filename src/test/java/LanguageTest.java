import java.io.IOException;
import java.lang.reflect.Field;
import java.lang.reflect.Method;
import java.lang.reflect.Modifier;
import java.nio.charset.StandardCharsets;
import java.nio.file.Files;
import java.nio.file.Path;
import java.util.ArrayList;
import java.util.List;
import java.util.regex.Matcher;
import java.util.regex.Pattern;

/**
 * The rules of LANGUAGE.md that can be seen in the text of the class, or in what became of it, by their numbers there.
 * Members outside the face are FaceTest's; that no call throws by itself is, as far as it can be run, Due's.
 */
public final class LanguageTest {
    private static final Path FILE = Path.of("src/main/java/Vortexpin.java");
    private static final Pattern METHOD = Pattern.compile("( {4}| {8})[A-Za-z].*\\(.*\\).*\\{");
    private static final Pattern DIVISOR = Pattern.compile("(?:/=?|%=?) *(?:\\((?:int|long|double|float)\\) *)?([\\w.]+|\\S)");

    private static String code = "";

    public static void main(String[] args) throws IOException {
        code = plain(Files.readString(FILE, StandardCharsets.UTF_8));
        oneFile();
        library();
        fields();
        exceptions();
        divisors();
        wordsLeftOut();
        sizes();
        Due.close();
    }

    /** The text without what stands in comments and between quotation marks. */
    private static String plain(String text) {
        return text.replaceAll("\"[^\"\n]*\"", "\"\"").replaceAll("//[^\n]*", "").replaceAll("(?s)/\\*.*?\\*/", "");
    }

    private static void none(String rule, String pattern) {
        Matcher found = Pattern.compile(pattern).matcher(code);
        Due.sameText(rule, found.find() ? found.group() : "", "");
    }

    private static void oneFile() {
        none("rule 0: a package line", "(?m)^package\\b.*");
        none("rule 4: an import of another class", "(?m)^import (?!java\\.util\\.(ArrayList|List|Arrays|Iterator|NoSuchElementException);).*");
        none("rule 4: a library class by its whole name", "(?m)^(?!import ).*\\bjava\\.\\w+\\..*");
        none("rule 2: a lambda or a method reference", "->|::");
    }

    private static void library() {
        none("rule 4: a function of Math beyond int and long", "\\bMath\\.(?!(abs|min|max|floorDiv|floorMod)\\()\\w+");
        none("rule 4: a function whose name ends in Exact", "\\w+Exact\\b");
        none("rule 13: the world outside", "\\b(System\\.(?!arraycopy\\()|Random|Thread|Runtime|Files?\\b|Instant|Clock)\\w*");
    }

    private static List<Class<?>> classes() {
        List<Class<?>> all = new ArrayList<>(List.of(Vortexpin.class.getDeclaredClasses()));
        all.add(Vortexpin.class);
        return all;
    }

    private static void fields() {
        for (Class<?> one : classes()) {
            int own = 0;
            for (Field f : one.getDeclaredFields()) {
                boolean fixed = Modifier.isStatic(f.getModifiers());
                own += fixed ? 0 : 1;
                if (fixed) {
                    Due.sameText("rule 5: " + f, Modifier.isFinal(f.getModifiers()) ? "final" : "not final", "final");
                }
            }
            Due.sameText("rule 11: fields of " + one.getSimpleName(), own <= 20 ? "few" : "" + own, "few");
        }
    }

    private static void exceptions() {
        String kinds = "IllegalStateException|IllegalArgumentException|IndexOutOfBoundsException|ArithmeticException"
            + "|UnsupportedOperationException|NoSuchElementException|RuntimeException";
        none("rule 6: a throw of another kind", "\\bthrow (?!new (" + kinds + ")\\((\"\")?\\);).*");
        none("rule 6: a catch of what the machine throws",
            "\\bcatch *\\([^)]*\\b(Throwable|Error|Exception|RuntimeException|NullPointerException|ArithmeticException"
            + "|IndexOutOfBoundsException|ArrayIndexOutOfBoundsException|ClassCastException|NegativeArraySizeException|ArrayStoreException)\\b");
        none("rule 6: equals, hashCode or toString of its own", "\\b(boolean equals|int hashCode|String toString)\\(");
    }

    /** A divisor is a number or a constant other than 0, or its method looks whether it is 0. */
    private static void divisors() {
        int seen = 0;
        for (String method : methods()) {
            Matcher m = DIVISOR.matcher(method);
            while (m.find()) {
                seen++;
                Due.sameText("rule 7: " + m.group() + " in " + headOf(method),
                    isSafe(method, m.group(1), m.end()) ? "looked at" : "not looked at", "looked at");
            }
        }
        Due.sameText("rule 7: divisors", seen > 0 ? "some" : "none found", "some");
    }

    private static boolean isSafe(String method, String divisor, int behind) {
        if (divisor.equals("(")) {
            // Of doubles the machine throws nothing; what they answer is looked at by SamplesTest.
            return method.startsWith("1.0 - ", behind);
        }
        if (divisor.matches("[A-Z_]+")) {
            return code.matches("(?s).*\\bfinal int " + divisor + " = [1-9A-Z].*");
        }
        return divisor.matches("[1-9]\\d*") || Pattern.compile("\\b" + Pattern.quote(divisor) + " == 0\\b").matcher(method).find();
    }

    private static List<String> methods() {
        List<String> all = new ArrayList<>();
        StringBuilder open = null;
        String end = "";
        for (String line : code.split("\n")) {
            Matcher head = METHOD.matcher(line);
            if (open == null && head.matches()) {
                open = new StringBuilder();
                end = head.group(1) + "}";
            }
            if (open != null) {
                open.append(line).append('\n');
                if (line.equals(end)) {
                    all.add(open.toString());
                    open = null;
                }
            }
        }
        return all;
    }

    private static String headOf(String method) {
        return method.lines().findFirst().orElse("").strip();
    }

    private static void wordsLeftOut() {
        none("rule 6: a word that is left out", "\\b(finally|synchronized|assert|native|transient|volatile)\\b");
        none("rule 5: a static initialiser block", "\\bstatic *\\{");
        none("rule 9: a loop without an end", "\\bwhile *\\( *true *\\)|\\bfor *\\([^;)]*; *;");
        none("rule 6: two texts compared by ==", "[!=]= *\"\"|\"\" *[!=]=");
        none("rule 10: texts joined by +", "\"\" *\\+|\\+ *\"\"");
    }

    private static void sizes() {
        Due.sameText("rule 11: classes in the file", classes().size() <= 12 ? "few" : "" + classes().size(), "few");
        int inside = 0;
        for (Class<?> one : classes()) {
            for (Method m : one.getDeclaredMethods()) {
                inside++;
                Due.sameText("rule 11: parameters of " + m, m.getParameterCount() <= 7 ? "few" : "" + m.getParameterCount(), "few");
            }
        }
        for (String method : methods()) {
            long lines = method.lines().count();
            Due.sameText("rule 11: lines of " + headOf(method), lines <= 60 ? "few" : "" + lines, "few");
        }
        Due.sameText("methods found in the text", methods().size() >= inside ? "all" : methods().size() + " of " + inside, "all");
    }
}

import java.io.IOException;
import java.lang.reflect.Field;
import java.lang.reflect.Method;
import java.lang.reflect.Modifier;
import java.nio.file.Files;
import java.nio.file.Path;
import java.util.List;
import java.util.regex.Matcher;
import java.util.regex.Pattern;

/** The rules of LANGUAGE.md, as far as the source or the classes show whether they are kept. */
public final class LanguageTest {
    private static final Path SOURCE = Path.of("src/main/java/DecimalBits.java");
    private static final int MOST_CLASSES = 12;
    private static final int MOST_FIELDS = 20;
    private static final int MOST_PARAMETERS = 7;
    private static final int MOST_LINES = 60;
    private static final String[] REFUSED = {
        "->", "::", "\\bpackage\\b", "\\btry\\b", "\\bcatch\\b", "\\bfinally\\b", "\\bsynchronized\\b", "\\bassert\\b",
        "\\bfloat\\b", "\\bdouble\\b", "\\bvar\\b", "Exact\\(", "\\bObject\\b", "\\bThread\\b", "\\bequals\\b",
        "\\bhashCode\\b", "\\btoString\\b", "\\.out\\b", "\\bRandom\\b", "Integer\\.M", "Long\\.M", "\" *\\+",
        "\\+ *\"", "java\\.(?!util\\.Arrays)", "Math\\.(?!max|min|abs|floorDiv|floorMod)", "System\\.(?!arraycopy)",
        "Arrays\\.(?!fill|copyOf|copyOfRange)", "throw new (?!IllegalArgumentException|ArithmeticException)"
    };

    private static int wrong = 0;

    public static void main(String[] args) throws IOException {
        List<String> lines = Files.readAllLines(SOURCE);
        boolean inComment = false;
        int start = 0;
        for (int k = 0; k < lines.size(); k++) {
            String line = lines.get(k);
            inComment |= line.strip().startsWith("/**");
            if (!inComment && !line.strip().startsWith("//") && !line.startsWith("import java.util.Arrays;")) {
                lookAtLine(k + 1, line);
            }
            inComment &= !line.contains("*/");
            start = methodStart(line, start, k);
            if (line.matches(" {4}(?: {4})?}")) {
                hold("method of " + (k - start + 1) + " lines at " + (k + 1), start == 0 || k - start < MOST_LINES);
                start = 0;
            }
        }
        lookAtClasses();
        System.out.println("the language, broken rules: " + wrong);
        if (wrong > 0) {
            System.exit(1);
        }
    }

    private static int methodStart(String line, int start, int k) {
        return line.matches(" {4}(?: {4})?[a-z].*\\) .*\\{") ? k : start;
    }

    private static void hold(String what, boolean holds) {
        if (!holds) {
            wrong++;
            System.out.println("not allowed: " + what);
        }
    }

    private static void lookAtLine(int number, String line) {
        for (String refused : REFUSED) {
            Matcher m = Pattern.compile(refused).matcher(line);
            hold("line " + number + ": " + line.strip(), !m.find());
        }
    }

    private static void lookAtClasses() {
        Class<?>[] inside = DecimalBits.class.getDeclaredClasses();
        hold(inside.length + 1 + " classes", inside.length + 1 <= MOST_CLASSES);
        lookAtClass(DecimalBits.class);
        for (Class<?> one : inside) {
            lookAtClass(one);
        }
    }

    private static void lookAtClass(Class<?> one) {
        int fields = 0;
        for (Field field : one.getDeclaredFields()) {
            boolean fixed = Modifier.isStatic(field.getModifiers());
            hold("static field " + field, !fixed || Modifier.isFinal(field.getModifiers()));
            fields += fixed ? 0 : 1;
        }
        hold(fields + " fields in " + one.getSimpleName(), fields <= MOST_FIELDS);
        for (Method method : one.getDeclaredMethods()) {
            hold("parameters of " + method, method.getParameterCount() <= MOST_PARAMETERS);
        }
    }
}

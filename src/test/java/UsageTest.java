import java.io.IOException;
import java.nio.file.Files;
import java.nio.file.Path;
import java.util.ArrayList;
import java.util.List;

/** README.md's examples, line by line as they stand there, with what README.md says of them. */
public final class UsageTest extends Checks {
    private static final Path README = Path.of("README.md");
    private static final Path SOURCE = Path.of("src/test/java/UsageTest.java");

    public static void main(String[] args) throws IOException {
        useAsToldThere();
        holdEachLineOfTheExamples();
        end();
    }

    private static void useAsToldThere() {
        DecimalBits x = new DecimalBits();
        due("a new object", x.kind(8) + " " + x.format(8) + " " + x.flags(), "6 1 0");

        x.load(0, 1, 0x31c00000, 12, 0, 0);
        x.number(1, 1, 0, 3);
        for (char c : "-0.10".toCharArray()) {
            x.type(c);
        }
        x.read(2, 1);
        due("register 0", datum(x, 0), "12E0");
        due("register 1", datum(x, 1), "3E0");
        due("register 2", datum(x, 2), "-10E-2");

        int exact = x.two(3, 3, 0, 1);
        int inexact = x.two(3, 4, 2, 1);
        boolean known = x.direct(3);
        x.two(3, 5, 2, 1);
        due("12 / 3", datum(x, 3) + " " + exact, "4E0 0");
        due("-0.10 / 3", datum(x, 4) + " " + inexact, "-3333333333333333E-17 16");
        due("direct(3)", known, true);
        due("-0.10 / 3 down", datum(x, 5), "-3333333333333334E-17");
        due("LAST", datum(x, 8), datum(x, 5));

        int form = x.format(4);
        int high = x.bits(4, 0);
        int low = x.bits(4, 1);
        int kind = x.kind(4);
        long whole = x.whole(4, 3, false);
        int log = x.log(4);
        int order = x.compare(4, 3, true);
        StringBuilder text = new StringBuilder();
        int length = x.write(4);
        for (int k = 0; k < length; k++) {
            text.append((char) x.output(k));
        }
        due("format", form, 1);
        due("bits", Integer.toHexString(high) + " " + Integer.toHexString(low), "afabd7a6 25405555");
        due("kind", kind, 3);
        due("whole", whole, -1L);
        due("log", log, -2);
        due("compare", order, -1);
        due("write", text.toString(), "-0.03333333333333333");

        int set = x.flags();
        int were = x.lower(16 + 2);
        due("flags, and those that were", set + " " + were + " " + x.flags(), "16 16 0");
        x.trap(1 + 2);
        try {
            x.two(3, 5, 0, 7);
            due("12 / 0 with a trap", "answered", "ArithmeticException");
        } catch (ArithmeticException trapped) {
            set = x.flags();
            kind = x.kind(8);
        }
        due("flags with a trap", set, 2);
        due("LAST with a trap", kind, 9);
        due("register 5 with a trap", datum(x, 5), "-3333333333333334E-17");
        x.trap(0);
        due("12 / 0 without", x.two(3, 5, 0, 7), 2);
    }

    private static void holdEachLineOfTheExamples() throws IOException {
        List<String> here = new ArrayList<>();
        for (String line : Files.readAllLines(SOURCE)) {
            here.add(statement(line));
        }
        int place = here.indexOf("private static void useAsToldThere() {");
        int found = 0;
        for (String line : examples()) {
            List<String> rest = here.subList(place, here.size());
            int next = rest.indexOf(line);
            due("README.md's line is run here, in its turn: " + line, next >= 0, true);
            place += next + 1;
            found++;
        }
        due("README.md has examples", found > 0, true);
    }

    private static List<String> examples() throws IOException {
        List<String> lines = new ArrayList<>();
        boolean inside = false;
        for (String line : Files.readAllLines(README)) {
            if (line.startsWith("```")) {
                inside = line.equals("```java");
            } else if (inside && !statement(line).isEmpty()) {
                lines.add(statement(line));
            }
        }
        return lines;
    }

    private static String statement(String line) {
        int comment = line.indexOf("//");
        return (comment < 0 ? line : line.substring(0, comment)).strip();
    }
}

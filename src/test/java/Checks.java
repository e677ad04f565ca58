import java.math.BigDecimal;
import java.math.BigInteger;

/**
 * What the tests share: data in a notation, calls on new objects, and a count of the wrong answers. The notation: 12E-5
 * (c, E and q) or any text that a BigDecimal has, with its q; Infinity or inf; NaN or sNaN and a payload. Data go in by
 * load and come out by bits, both by a coding that is the tests' own.
 */
abstract class Checks {
    static final int INVALID = 1;
    static final int DIVISION = 2;
    static final int OVERFLOW = 4;
    static final int UNDERFLOW = 8;
    static final int INEXACT = 16;

    static final int[] P = {7, 16, 34};
    static final int[] EMAX = {96, 384, 6144};
    static final int[] BIAS = {101, 398, 6176};
    static final int[] GREATEST = {90, 369, 6111};
    static final int[] WIDTH = {32, 64, 128};
    static final int[] EXPONENT_BITS = {8, 10, 14};
    static final int[] PAYLOAD_BITS = {20, 50, 110};
    static final int[] NO_REGISTERS = {-1, 9, 10, 256, Integer.MIN_VALUE, Integer.MAX_VALUE};
    static final int[] NO_TARGETS = {-1, 8, 9, 10, 256, Integer.MIN_VALUE, Integer.MAX_VALUE};
    static final int[] NO_FORMATS = {-1, 3, 256, Integer.MIN_VALUE, Integer.MAX_VALUE};

    static final String[] OF_TWO = {
        "add", "subtract", "multiply", "divide", "remainder", "quantize", "min", "max", "min size", "max size",
        "copy sign"
    };
    static final String[] OF_ONE = {
        "root", "whole 0", "whole 1", "whole 2", "whole 3", "whole 4", "whole", "next up", "next down", "negate",
        "size", "canonical"
    };

    private static int wrong = 0;
    private static int looked = 0;

    interface Call {
        long answer();
    }

    /** Ends the test: with exit code 1 if an answer was wrong. */
    static void end() {
        System.out.println(looked + " answers looked at, wrong ones: " + wrong);
        if (wrong > 0) {
            System.exit(1);
        }
    }

    static void due(String what, Object got, Object want) {
        looked++;
        if (!got.equals(want)) {
            wrong++;
            System.out.println(what + " answered " + got + ", due is " + want);
        }
    }

    static void refused(String what, Call call) {
        due(what, outcome(call), "IllegalArgumentException");
    }

    static void trapped(String what, Call call) {
        due(what, outcome(call), "ArithmeticException");
    }

    static String outcome(Call call) {
        try {
            return "answers " + call.answer();
        } catch (RuntimeException e) {
            return e.getClass().getSimpleName();
        }
    }

    // Data.

    static String nines(int count) {
        return "9".repeat(count);
    }

    /** Ten to the power. */
    static String ten(int power) {
        return "1" + "0".repeat(power);
    }

    /** The greatest number of a format. */
    static String greatest(int f) {
        return nines(P[f]) + "E" + GREATEST[f];
    }

    /** The least number of a format. */
    static String least(int f) {
        return "1E" + -BIAS[f];
    }

    /** The notation's one form: c, E and q; Infinity; NaN, sNaN and a payload that isn't 0. */
    static String plain(String datum) {
        boolean minus = datum.startsWith("-");
        String body = minus ? datum.substring(1) : datum;
        if (body.equals("inf")) {
            body = "Infinity";
        } else if (!body.equals("Infinity") && !body.contains("NaN")) {
            BigDecimal number = new BigDecimal(body);
            body = number.unscaledValue() + "E" + -number.scale();
        }
        return minus ? "-" + body : body;
    }

    /** A datum and what is signalled, "12E-5 16", with the datum in the one form. */
    private static String plainWant(String want) {
        int space = want.indexOf(' ');
        return plain(want.substring(0, space)) + want.substring(space);
    }

    /** The pattern of a datum, WRITTEN. */
    static BigInteger pattern(int f, String datum) {
        String all = plain(datum);
        boolean minus = all.startsWith("-");
        String body = minus ? all.substring(1) : all;
        BigInteger pattern;
        if (body.equals("Infinity")) {
            pattern = special(f, 0b111100, BigInteger.ZERO);
        } else if (body.contains("NaN")) {
            int head = body.startsWith("s") ? 0b111111 : 0b111110;
            pattern = special(f, head, new BigInteger("0" + body.substring(body.indexOf('N') + 3)));
        } else {
            int at = body.indexOf('E');
            pattern = finite(f, new BigInteger(body.substring(0, at)), Integer.parseInt(body.substring(at + 1)));
        }
        return minus ? pattern.setBit(WIDTH[f] - 1) : pattern;
    }

    private static BigInteger special(int f, int head, BigInteger payload) {
        if (payload.compareTo(BigInteger.TEN.pow(P[f] - 1)) >= 0) {
            throw new IllegalStateException("no payload of format " + f + ": " + payload);
        }
        return BigInteger.valueOf(head).shiftLeft(WIDTH[f] - 7).or(payload);
    }

    private static BigInteger finite(int f, BigInteger c, int q) {
        if (c.compareTo(BigInteger.TEN.pow(P[f])) >= 0 || q < -BIAS[f] || q > GREATEST[f]) {
            throw new IllegalStateException("no datum of format " + f + ": " + c + "E" + q);
        }
        BigInteger biased = BigInteger.valueOf(q + BIAS[f]);
        int room = WIDTH[f] - 1 - EXPONENT_BITS[f];
        if (c.bitLength() <= room) {
            return biased.shiftLeft(room).or(c);
        }
        BigInteger heads = BigInteger.valueOf(3).shiftLeft(EXPONENT_BITS[f]).or(biased);
        return heads.shiftLeft(room - 2).or(field(c, 0, room - 2));
    }

    private static BigInteger field(BigInteger all, int from, int count) {
        return all.shiftRight(from).and(BigInteger.ONE.shiftLeft(count).subtract(BigInteger.ONE));
    }

    /** The datum with a pattern, which must be one that is WRITTEN. */
    private static String datum(int f, BigInteger pattern) {
        int width = WIDTH[f];
        int room = width - 1 - EXPONENT_BITS[f];
        BigInteger payload = field(pattern, 0, PAYLOAD_BITS[f]);
        int head = field(pattern, width - 7, 6).intValue();
        String body;
        if (head >= 0b111110) {
            body = (head == 0b111111 ? "sNaN" : "NaN") + (payload.signum() == 0 ? "" : payload);
        } else if (head >= 0b111100) {
            body = "Infinity";
        } else if (head >= 0b110000) {
            BigInteger c = BigInteger.valueOf(4).shiftLeft(room - 2).or(field(pattern, 0, room - 2));
            body = c + "E" + (field(pattern, room - 2, EXPONENT_BITS[f]).intValue() - BIAS[f]);
        } else {
            body = field(pattern, 0, room) + "E" + (field(pattern, room, EXPONENT_BITS[f]).intValue() - BIAS[f]);
        }
        return pattern.testBit(width - 1) ? "-" + body : body;
    }

    /** A register's datum, in the notation's one form. */
    static String datum(DecimalBits x, int r) {
        int f = x.format(r);
        BigInteger pattern = BigInteger.ZERO;
        for (int k = 0; k < WIDTH[f] / 32; k++) {
            pattern = pattern.shiftLeft(32).or(BigInteger.valueOf(x.bits(r, k) & 0xffffffffL));
        }
        String datum = datum(f, pattern);
        try {
            return pattern(f, datum).equals(pattern) ? datum : "a pattern that isn't WRITTEN, of " + datum;
        } catch (IllegalStateException e) {
            return e.getMessage();
        }
    }

    static void loadPattern(DecimalBits x, int r, int f, BigInteger pattern) {
        int[] words = new int[4];
        for (int k = 0; k < WIDTH[f] / 32; k++) {
            words[k] = pattern.shiftRight(WIDTH[f] - 32 * (k + 1)).intValue();
        }
        x.load(r, f, words[0], words[1], words[2], words[3]);
    }

    static void set(DecimalBits x, int r, int f, String datum) {
        loadPattern(x, r, f, pattern(f, datum));
    }

    static String hex(DecimalBits x, int r) {
        StringBuilder s = new StringBuilder();
        for (int k = 0; k < WIDTH[x.format(r)] / 32; k++) {
            s.append(String.format("%08x", x.bits(r, k)));
        }
        return s.toString();
    }

    // Texts.

    static void type(DecimalBits x, String text) {
        for (int k = 0; k < text.length(); k++) {
            x.type(text.charAt(k));
        }
    }

    static int put(DecimalBits x, int r, int f, String text) {
        type(x, text);
        return x.read(r, f);
    }

    static String text(DecimalBits x, int r) {
        return output(x, x.write(r));
    }

    static String output(DecimalBits x, int length) {
        StringBuilder s = new StringBuilder();
        for (int k = 0; k < length; k++) {
            s.append((char) x.output(k));
        }
        return s.toString();
    }

    // Operations on new objects; what is due has the result and what is signalled, as "12E-5 16".

    /** A new object with the operands in registers 0, 1, 2. */
    private static DecimalBits desk(int f, int direction, String... operands) {
        DecimalBits x = new DecimalBits();
        for (int k = 0; k < operands.length; k++) {
            set(x, k, f, operands[k]);
        }
        due("direct(" + direction + ")", x.direct(direction), true);
        return x;
    }

    /** Looks at the result, in register 3, and at all else that an operation leaves. */
    private static void result(String what, DecimalBits x, int f, int signalled, String want, String... operands) {
        due(what, datum(x, 3) + " " + signalled, plainWant(want));
        due("format behind " + what, x.format(3), f);
        due("flags behind " + what, x.flags(), signalled);
        due("LAST behind " + what, datum(x, 8), datum(x, 3));
        for (int k = 0; k < operands.length; k++) {
            due("operand " + k + " behind " + what, datum(x, k), plain(operands[k]));
        }
    }

    private static String where(int f, int direction) {
        return " in format " + f + ", direction " + direction;
    }

    static void two(int what, int f, int direction, String a, String b, String want) {
        DecimalBits x = desk(f, direction, a, b);
        int signalled = x.two(what, 3, 0, 1);
        result(OF_TWO[what] + " of " + a + " and " + b + where(f, direction), x, f, signalled, want, a, b);
    }

    static void fused(int f, int direction, String a, String b, String c, String want) {
        DecimalBits x = desk(f, direction, a, b, c);
        int signalled = x.fused(3, 0, 1, 2);
        result("fused of " + a + ", " + b + ", " + c + where(f, direction), x, f, signalled, want, a, b, c);
    }

    static void one(int what, int f, int direction, String a, String want) {
        DecimalBits x = desk(f, direction, a);
        int signalled = x.one(what, 3, 0);
        result(OF_ONE[what] + " of " + a + where(f, direction), x, f, signalled, want, a);
    }

    static void scaled(int f, int direction, String a, int n, String want) {
        DecimalBits x = desk(f, direction, a);
        int signalled = x.scale(3, 0, n);
        result("scale of " + a + " by " + n + where(f, direction), x, f, signalled, want, a);
    }

    static void converted(int f, int g, int direction, String a, String want) {
        DecimalBits x = desk(f, direction, a);
        int signalled = x.convert(3, 0, g);
        result("convert of " + a + " to " + g + where(f, direction), x, g, signalled, want, a);
    }

    static void numbered(int f, int direction, long value, String want) {
        DecimalBits x = desk(f, direction);
        int signalled = x.number(3, f, (int) (value >> 32), (int) value);
        result("number " + value + where(f, direction), x, f, signalled, want);
    }

    static void read(int f, int direction, String text, String want) {
        DecimalBits x = desk(f, direction);
        int signalled = put(x, 3, f, text);
        result("read of " + text + where(f, direction), x, f, signalled, want);
    }

    // The same in all directions: what is due in 0 .. 4.

    private static String mirrored(String[] wants, int direction) {
        return "-" + wants[direction == 2 ? 3 : direction == 3 ? 2 : direction];
    }

    static void twoInAll(int what, int f, String a, String b, String... wants) {
        for (int m = 0; m < 5; m++) {
            two(what, f, m, a, b, wants[m]);
        }
    }

    /** An addition, and that of both with the other sign. */
    static void addInAll(int f, String a, String b, String... wants) {
        String otherA = a.startsWith("-") ? a.substring(1) : "-" + a;
        String otherB = b.startsWith("-") ? b.substring(1) : "-" + b;
        for (int m = 0; m < 5; m++) {
            two(0, f, m, a, b, wants[m]);
            two(0, f, m, otherA, otherB, mirrored(wants, m));
            two(1, f, m, a, otherB, wants[m]);
        }
    }

    /** A multiplication or a division, with both signs. */
    static void signedInAll(int what, int f, String a, String b, String... wants) {
        for (int m = 0; m < 5; m++) {
            two(what, f, m, a, b, wants[m]);
            two(what, f, m, "-" + a, b, mirrored(wants, m));
            two(what, f, m, a, "-" + b, mirrored(wants, m));
            two(what, f, m, "-" + a, "-" + b, wants[m]);
        }
    }

    /** The text of a number, also with a -. */
    static void readInAll(int f, String text, String... wants) {
        for (int m = 0; m < 5; m++) {
            read(f, m, text, wants[m]);
            read(f, m, "-" + text, mirrored(wants, m));
        }
    }

    static void scaleInAll(int f, String a, int n, String... wants) {
        for (int m = 0; m < 5; m++) {
            scaled(f, m, a, n, wants[m]);
            scaled(f, m, "-" + a, n, mirrored(wants, m));
        }
    }

    static void convertInAll(int f, int g, String a, String... wants) {
        for (int m = 0; m < 5; m++) {
            converted(f, g, m, a, wants[m]);
            converted(f, g, m, "-" + a, mirrored(wants, m));
        }
    }
}

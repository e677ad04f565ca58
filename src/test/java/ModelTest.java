import java.math.BigInteger;
import java.util.Arrays;
import java.util.Random;

/** Random runs of calls, the same ones each time, on the program and on the model: all answers must be the same. */
public final class ModelTest {
    private static final int RUNS = 4000;
    private static final int MOST_CALLS = 512;
    private static final int[] P = {7, 16, 34};
    private static final int[] BIAS = {101, 398, 6176};
    private static final int[] GREATEST = {90, 369, 6111};

    /** A call on one of the two; an exception that is allowed for counts as an answer. */
    private interface Call {
        long answer();
    }

    private final Random random;
    private final int seed;
    private final int favourite;
    private final DecimalBits program = new DecimalBits();
    private final Model model = new Model();
    private int calls = 0;
    private int wrong = 0;

    private ModelTest(int seed) {
        this.seed = seed;
        random = new Random(seed);
        favourite = random.nextInt(3);
    }

    public static void main(String[] args) {
        int runs = args.length > 0 ? Integer.parseInt(args[0]) : RUNS;
        int first = args.length > 1 ? Integer.parseInt(args[1]) : 0;
        int wrong = 0;
        for (int seed = first; seed < first + runs && wrong < 20; seed++) {
            wrong += new ModelTest(seed).run();
        }
        System.out.println(runs + " random runs, wrong answers: " + wrong);
        if (wrong > 0) {
            System.exit(1);
        }
    }

    private int run() {
        while (calls < MOST_CALLS - 140 && wrong == 0) {
            step();
        }
        return wrong;
    }

    private static String outcome(Call call) {
        try {
            return Long.toString(call.answer());
        } catch (IllegalArgumentException e) {
            return "throws IllegalArgumentException";
        } catch (ArithmeticException e) {
            return "throws ArithmeticException";
        }
    }

    private void same(String what, Call onProgram, Call onModel) {
        calls++;
        Model.Datum[] before = model.registers.clone();
        String got = outcome(onProgram);
        String due = outcome(onModel);
        if (!got.equals(due)) {
            wrong++;
            System.out.println("seed " + seed + ": " + what + " answered " + got + ", due is " + due
                + " in direction " + model.direction + " with " + Arrays.toString(before));
        }
    }

    private static long bit(boolean b) {
        return b ? 1 : 0;
    }

    private void step() {
        int turn = random.nextInt(100);
        if (turn < 30) {
            loadSomething();
        } else if (turn < 55) {
            operateOnTwo();
        } else if (turn < 62) {
            operateOnThree();
        } else if (turn < 72) {
            operateOnOne();
        } else if (turn < 80) {
            changeWidthOrScale();
        } else if (turn < 88) {
            ask();
        } else if (turn < 92) {
            readText(someText());
        } else if (turn < 96) {
            setMode();
        } else {
            writeText();
        }
    }

    private void look(int r) {
        for (int k = 0; k < 4; k++) {
            int word = k;
            same("bits(" + r + ", " + k + ")", () -> program.bits(r, word), () -> model.bits(r, word));
        }
        same("format(" + r + ")", () -> program.format(r), () -> model.format(r));
        same("flags()", program::flags, model::flags);
    }

    private void lookAtResult(int d) {
        look(8);
        look(d);
    }

    private int format() {
        return random.nextInt(20) == 0 ? random.nextInt(5) - 1 : favourite;
    }

    private int target() {
        return random.nextInt(60) == 0 ? random.nextInt(12) - 2 : random.nextInt(8);
    }

    private int operand() {
        return random.nextInt(60) == 0 ? random.nextInt(12) - 2 : random.nextInt(9);
    }

    /** One of the operands' format, mostly, so that most operations are allowed. */
    private int partner(int a) {
        int b = operand();
        for (int turn = 0; turn < 6 && a >= 0 && a <= 8 && model.format(a) != model.format(b); turn++) {
            b = operand();
        }
        return b;
    }

    private void loadSomething() {
        int f = format();
        int r = target();
        int[] words = random.nextInt(6) == 0 ? someWords() : wordsOf(f);
        same("load(" + r + ", " + f + ", " + Arrays.toString(words) + ")", () -> {
            program.load(r, f, words[0], words[1], words[2], words[3]);
            return 0;
        }, () -> {
            model.load(r, f, words[0], words[1], words[2], words[3]);
            return 0;
        });
        look(r);
    }

    private int[] someWords() {
        int[] words = {random.nextInt(), random.nextInt(), random.nextInt(), random.nextInt()};
        if (random.nextBoolean()) {
            words[0] |= 0x60000000;
        }
        if (random.nextInt(3) == 0) {
            words[0] |= 0x78000000;
        }
        if (random.nextInt(4) == 0) {
            words[0] &= 0xffffc000;
            words[1] = 0;
        }
        return words;
    }

    private int[] wordsOf(int f) {
        int g = f < 0 || f > 2 ? 1 : f;
        int room = 32 << g;
        int width = new int[] {8, 10, 14}[g];
        BigInteger c = someCoefficient(P[g]);
        int q = someExponent(g);
        BigInteger all = BigInteger.valueOf(q + BIAS[g]);
        if (c.bitLength() <= room - 1 - width) {
            all = all.shiftLeft(room - 1 - width).or(c);
        } else {
            BigInteger mask = BigInteger.ONE.shiftLeft(room - 3 - width).subtract(BigInteger.ONE);
            all = all.or(BigInteger.valueOf(3).shiftLeft(width)).shiftLeft(room - 3 - width).or(c.and(mask));
        }
        if (random.nextBoolean()) {
            all = all.setBit(room - 1);
        }
        int[] words = new int[4];
        for (int k = 0; k < room / 32; k++) {
            words[k] = all.shiftRight(room - 32 * (k + 1)).intValue();
        }
        return words;
    }

    private BigInteger someCoefficient(int most) {
        BigInteger ten = BigInteger.TEN;
        int n = random.nextInt(most + 1);
        switch (random.nextInt(9)) {
            case 0:
                return BigInteger.valueOf(random.nextInt(12));
            case 1:
                return ten.pow(most).subtract(BigInteger.valueOf(1 + random.nextInt(3)));
            case 2:
                return ten.pow(Math.min(n, most - 1)).add(BigInteger.valueOf(random.nextInt(3)));
            case 3:
                return ten.pow(Math.min(n, most - 1)).multiply(BigInteger.valueOf(1 + random.nextInt(9)));
            case 4:
                return someDigits(most - n).multiply(ten.pow(n));
            case 5:
                return ten.pow(n).subtract(BigInteger.ONE);
            case 6:
                return someGroups().mod(ten.pow(most));
            default:
                return someDigits(n);
        }
    }

    /** Groups of nine digits at their edges: the ones that a division by limbs finds hard. */
    private BigInteger someGroups() {
        StringBuilder s = new StringBuilder();
        String[] edges = {"000000000", "999999999", "500000000", "499999999", "000000001", "999999998", "100000000"};
        for (int k = 0; k < 4; k++) {
            int pick = random.nextInt(edges.length + 1);
            s.append(pick < edges.length ? edges[pick] : String.format("%09d", random.nextInt(1000000000)));
        }
        return new BigInteger(s.toString());
    }

    private BigInteger someDigits(int count) {
        return new BigInteger(4 * count + 4, random).mod(BigInteger.TEN.pow(count));
    }

    private int someExponent(int g) {
        int least = -BIAS[g];
        int reach = GREATEST[g] - least;
        int small = random.nextInt(3 * P[g]);
        switch (random.nextInt(8)) {
            case 0:
                return least + small;
            case 1:
                return GREATEST[g] - small;
            case 2:
                return least + random.nextInt(reach + 1);
            case 3:
                return least / 2 + small - P[g];
            case 4:
                return 0;
            default:
                return small - 2 * P[g];
        }
    }

    private void operateOnTwo() {
        int what = random.nextInt(40) == 0 ? random.nextInt(14) - 1 : random.nextInt(11);
        int d = target();
        int a = operand();
        int b = partner(a);
        same("two(" + what + ", " + d + ", " + a + ", " + b + ")",
            () -> program.two(what, d, a, b), () -> model.two(what, d, a, b));
        lookAtResult(d);
    }

    private void operateOnThree() {
        int d = target();
        int a = operand();
        int b = partner(a);
        int c = partner(a);
        same("fused(" + d + ", " + a + ", " + b + ", " + c + ")",
            () -> program.fused(d, a, b, c), () -> model.fused(d, a, b, c));
        lookAtResult(d);
    }

    private void operateOnOne() {
        int what = random.nextInt(40) == 0 ? random.nextInt(15) - 1 : random.nextInt(3) == 0 ? 0 : random.nextInt(12);
        int d = target();
        int a = operand();
        same("one(" + what + ", " + d + ", " + a + ")", () -> program.one(what, d, a), () -> model.one(what, d, a));
        lookAtResult(d);
    }

    private void changeWidthOrScale() {
        int d = target();
        int a = operand();
        int f = random.nextInt(3) == 0 ? random.nextInt(5) - 1 : favourite;
        int turn = random.nextInt(4);
        if (turn == 0) {
            int n = random.nextInt(20) == 0 ? random.nextInt() : random.nextInt(801) - 400;
            same("scale(" + d + ", " + a + ", " + n + ")", () -> program.scale(d, a, n), () -> model.scale(d, a, n));
        } else if (turn < 3) {
            same("convert(" + d + ", " + a + ", " + f + ")",
                () -> program.convert(d, a, f), () -> model.convert(d, a, f));
        } else {
            int high = random.nextInt(3) == 0 ? random.nextInt(3) - 1 : random.nextInt();
            int low = random.nextInt(3) == 0 ? random.nextInt(3) - 1 : random.nextInt();
            same("number(" + d + ", " + f + ", " + high + ", " + low + ")",
                () -> program.number(d, f, high, low), () -> model.number(d, f, high, low));
        }
        lookAtResult(d);
    }

    private void ask() {
        int a = operand();
        int b = partner(a);
        boolean yes = random.nextBoolean();
        int way = random.nextInt(8) - 1;
        String pair = "(" + a + ", " + b + ") " + yes;
        same("compare" + pair, () -> program.compare(a, b, yes), () -> model.compare(a, b, yes));
        same("ordered" + pair, () -> bit(program.ordered(a, b)), () -> bit(model.ordered(a, b)));
        same("alike" + pair, () -> bit(program.alike(a, b)), () -> bit(model.alike(a, b)));
        same("kind(" + a + ")", () -> program.kind(a), () -> model.kind(a));
        same("log(" + a + ")", () -> program.log(a), () -> model.log(a));
        same("whole(" + a + ", " + way + ", " + yes + ")",
            () -> program.whole(a, way, yes), () -> model.whole(a, way, yes));
        look(8);
    }

    private String someText() {
        StringBuilder s = new StringBuilder();
        s.append(new String[] {"", "", "+", "-"}[random.nextInt(4)]);
        int turn = random.nextInt(12);
        if (turn == 0) {
            s.append(new String[] {"INF", "infinity", "InfinitY", "iNf", "infinit", "infx"}[random.nextInt(6)]);
        } else if (turn == 1) {
            s.append(new String[] {"NaN", "sNaN", "nan", "SNAN", "snan", "nans"}[random.nextInt(6)]);
            s.append("0".repeat(random.nextInt(3))).append(someDigits(random.nextInt(37)));
        } else {
            appendNumber(s);
        }
        if (random.nextInt(12) == 0) {
            s.insert(random.nextInt(s.length() + 1), ".e+-5 xN".charAt(random.nextInt(8)));
        }
        return s.toString();
    }

    private void appendNumber(StringBuilder s) {
        int count = random.nextInt(4) == 0 ? random.nextInt(100) : random.nextInt(40);
        StringBuilder digits = new StringBuilder("0".repeat(random.nextInt(3)));
        digits.append(someCoefficient(count + 1));
        if (random.nextBoolean()) {
            digits.insert(random.nextInt(digits.length() + 1), '.');
        }
        s.append(digits);
        if (random.nextBoolean()) {
            s.append(random.nextBoolean() ? 'e' : 'E').append(new String[] {"", "+", "-"}[random.nextInt(3)]);
            int reach = random.nextInt(4) == 0 ? 7000 : random.nextInt(3) == 0 ? 400 : 110;
            s.append(random.nextInt(15) == 0 ? someDigits(12).toString() : Integer.toString(random.nextInt(reach)));
        }
    }

    private void readText(String text) {
        int d = target();
        int f = format();
        for (int k = 0; k < text.length(); k++) {
            int c = text.charAt(k);
            same("type(" + c + ")", () -> bit(program.type(c)), () -> bit(model.type(c)));
        }
        same("read(" + d + ", " + f + ") of " + text, () -> program.read(d, f), () -> model.read(d, f));
        lookAtResult(d);
    }

    private void setMode() {
        int m = random.nextInt(7) - 1;
        int some = random.nextInt();
        int traps = random.nextInt(3) == 0 ? 1 << random.nextInt(6) : 0;
        same("direct(" + m + ")", () -> bit(program.direct(m)), () -> bit(model.direct(m)));
        same("lower(" + some + ")", () -> program.lower(some), () -> model.lower(some));
        same("trap(" + traps + ")", () -> {
            program.trap(traps);
            return 0;
        }, () -> {
            model.trap(traps);
            return 0;
        });
    }

    private void writeText() {
        int a = operand();
        same("write(" + a + ")", () -> program.write(a), () -> model.write(a));
        for (int k = -1; k <= model.output.length(); k++) {
            int at = k;
            same("output(" + k + ")", () -> program.output(at), () -> model.output(at));
        }
    }
}

import java.math.BigInteger;

/** The document's FORMATS and PATTERNS at their edges, and what is asked of one register: promises 1 to 4, 19, 20. */
public final class PatternEdgesTest extends Checks {
    public static void main(String[] args) {
        everyRegisterIsNew();
        for (int f = 0; f < 3; f++) {
            firstForm(f);
            secondForm(f);
            infinities(f);
            nans(f, "0", "NaN");
            nans(f, "1", "sNaN");
            roomOfTheFirstForm(f);
            edgesOfTheFormat(f);
            sameValueOtherExponent(f);
            kinds(f);
            likeness(f);
        }
        oneDatumBehindAnother();
        wordsThatAreNotLookedAt();
        wordsThatAreNotThere();
        registersThatAreNotThere();
        end();
    }

    private static String binary(BigInteger value, int count) {
        String bits = value.toString(2);
        return "0".repeat(count - bits.length()) + bits;
    }

    private static String biased(int f, int q) {
        return binary(BigInteger.valueOf(q + BIAS[f]), EXPONENT_BITS[f]);
    }

    private static String zeros(int count) {
        return "0".repeat(count);
    }

    private static String ones(int count) {
        return "1".repeat(count);
    }

    private static BigInteger power(int base, int exponent) {
        return BigInteger.valueOf(base).pow(exponent);
    }

    /** Both signs: the datum of a pattern that is loaded, and that nothing else changes. */
    private static void loaded(int f, String bits, String want) {
        DecimalBits x = new DecimalBits();
        x.trap(31);
        for (int sign = 0; sign < 2; sign++) {
            String all = sign + bits;
            due("length of a pattern", all.length(), WIDTH[f]);
            loadPattern(x, 7, f, new BigInteger(all, 2));
            due("the datum of " + all, datum(x, 7), sign == 0 ? want : "-" + want);
            due("its format", x.format(7), f);
        }
        for (int r : new int[] {0, 1, 2, 3, 4, 5, 6, 8}) {
            due("register " + r + " behind a load to 7", datum(x, r), "0E0");
        }
        due("flags behind a load", x.flags(), 0);
    }

    private static void everyRegisterIsNew() {
        DecimalBits x = new DecimalBits();
        for (int r = 0; r <= 8; r++) {
            due("a new register " + r, datum(x, r) + " " + x.format(r), "0E0 1");
        }
        due("a new object's flags", x.flags(), 0);
        due("a new object's output", x.output(0), DecimalBits.NONE);
        refused("a new object's text", () -> x.read(0, 1));
        set(x, 0, 1, "1E0");
        set(x, 1, 1, "0E0");
        due("a new object has no traps", outcome(() -> x.two(3, 2, 0, 1)), "answers 2");
        due("a new object's direction", outcome(() -> put(x, 3, 0, "10000005")), "answers 16");
        due("a new object's direction", datum(x, 3), "1000000E1");
        due("a new object's direction", outcome(() -> put(x, 3, 0, "10000015")), "answers 16");
        due("a new object's direction", datum(x, 3), "1000002E1");
    }

    /** The first two of the B bits aren't both 1: they are q + BIAS, and c is in all the others. */
    private static void firstForm(int f) {
        int room = WIDTH[f] - 1 - EXPONENT_BITS[f];
        int b = EXPONENT_BITS[f];
        loaded(f, zeros(b) + zeros(room), "0E" + -BIAS[f]);
        loaded(f, zeros(b) + zeros(room - 1) + "1", "1E" + -BIAS[f]);
        loaded(f, biased(f, 0) + zeros(room - 3) + "101", "5E0");
        loaded(f, "01" + ones(b - 2) + zeros(room - 1) + "1", "1E" + (power(2, b - 1).intValue() - 1 - BIAS[f]));
        loaded(f, "10" + zeros(b - 2) + zeros(room - 1) + "1", "1E" + (power(2, b - 1).intValue() - BIAS[f]));
        loaded(f, "10" + ones(b - 2) + zeros(room), "0E" + GREATEST[f]);
        loaded(f, "10" + ones(b - 2) + zeros(room - 1) + "1", "1E" + GREATEST[f]);
        BigInteger all = power(2, room).subtract(BigInteger.ONE);
        loaded(f, biased(f, 1) + ones(room), (f == 2 ? BigInteger.ZERO : all) + "E1");
        loaded(f, "10" + ones(b - 2) + ones(room), (f == 2 ? BigInteger.ZERO : all) + "E" + GREATEST[f]);
        if (f == 2) {
            // A c of more than P digits stands for 0; q and the sign stay.
            loaded(f, biased(f, 3) + binary(power(10, 34).subtract(BigInteger.ONE), room), nines(34) + "E3");
            loaded(f, biased(f, 3) + binary(power(10, 34), room), "0E3");
            loaded(f, biased(f, -BIAS[f]) + binary(power(10, 34).add(BigInteger.ONE), room), "0E" + -BIAS[f]);
        }
    }

    /** The first two are 1, the next two not both: B bits of q + BIAS behind them, and c is 100 and the others. */
    private static void secondForm(int f) {
        int rest = WIDTH[f] - 3 - EXPONENT_BITS[f];
        int b = EXPONENT_BITS[f];
        BigInteger start = power(2, rest + 2);
        boolean kept = f < 2;
        String first = kept ? start.toString() : "0";
        loaded(f, "11" + biased(f, 0) + zeros(rest), first + "E0");
        loaded(f, "11" + zeros(b) + zeros(rest), first + "E" + -BIAS[f]);
        loaded(f, "11" + "01" + ones(b - 2) + zeros(rest), first + "E" + (power(2, b - 1).intValue() - 1 - BIAS[f]));
        loaded(f, "11" + "10" + ones(b - 2) + zeros(rest), first + "E" + GREATEST[f]);
        String second = kept ? start.add(BigInteger.ONE).toString() : "0";
        loaded(f, "11" + biased(f, -2) + zeros(rest - 1) + "1", second + "E-2");
        loaded(f, "11" + biased(f, 2) + ones(rest), "0E2");
        loaded(f, "11" + "10" + ones(b - 2) + ones(rest), "0E" + GREATEST[f]);
        loaded(f, "11" + zeros(b) + ones(rest), "0E" + -BIAS[f]);
        if (kept) {
            BigInteger over = power(10, P[f]).subtract(start);
            loaded(f, "11" + biased(f, 4) + binary(over.subtract(BigInteger.ONE), rest), nines(P[f]) + "E4");
            loaded(f, "11" + "10" + ones(b - 2) + binary(over.subtract(BigInteger.ONE), rest), greatest(f));
            loaded(f, "11" + biased(f, 4) + binary(over, rest), "0E4");
            loaded(f, "11" + biased(f, 4) + binary(over.add(BigInteger.ONE), rest), "0E4");
        }
    }

    /** What isn't told of means nothing; unused bits are written as 0. */
    private static void infinities(int f) {
        int rest = WIDTH[f] - 6;
        loaded(f, "11110" + zeros(rest), "Infinity");
        loaded(f, "11110" + ones(rest), "Infinity");
        loaded(f, "11110" + zeros(rest - 1) + "1", "Infinity");
        loaded(f, "111101" + zeros(rest - 1), "Infinity");
    }

    private static void nans(int f, String sixth, String name) {
        int idle = WIDTH[f] - 7 - PAYLOAD_BITS[f];
        int room = PAYLOAD_BITS[f];
        String head = "11111" + sixth;
        BigInteger limit = power(10, P[f] - 1);
        loaded(f, head + zeros(idle) + zeros(room), name);
        loaded(f, head + ones(idle) + zeros(room), name);
        loaded(f, head + zeros(idle) + zeros(room - 1) + "1", name + "1");
        loaded(f, head + ones(idle) + zeros(room - 4) + "1001", name + "9");
        loaded(f, head + zeros(idle) + binary(limit.subtract(BigInteger.ONE), room), name + nines(P[f] - 1));
        loaded(f, head + ones(idle) + binary(limit.subtract(BigInteger.ONE), room), name + nines(P[f] - 1));
        loaded(f, head + zeros(idle) + binary(limit, room), name);
        loaded(f, head + zeros(idle) + binary(limit.add(BigInteger.ONE), room), name);
        loaded(f, head + zeros(idle) + ones(room), name);
        loaded(f, head + ones(idle) + ones(room), name);
    }

    /** WRITTEN, a datum has the first form if c has room there, else the second one. */
    private static void roomOfTheFirstForm(int f) {
        String[][] wants = {
            {"32800000", "32ffffff", "6ca00000", "6cb8967f"},
            {"31c0000000000000", "31dfffffffffffff", "6c70000000000000", "6c7386f26fc0ffff"},
        };
        if (f == 2) {
            DecimalBits x = new DecimalBits();
            due("the greatest c of 128 bits", put(x, 0, 2, nines(34)), 0);
            due("it is of the first form", hex(x, 0), "3041ed09bead87c0378d8e63ffffffff");
            return;
        }
        DecimalBits x = new DecimalBits();
        long room = 1L << (f == 0 ? 23 : 53);
        long[] values = {0, room - 1, room, f == 0 ? 9999999L : 9999999999999999L};
        for (int k = 0; k < values.length; k++) {
            x.number(0, f, (int) (values[k] >> 32), (int) values[k]);
            due("bits of " + values[k], hex(x, 0), wants[f][k]);
        }
    }

    /** Digits P, greatest power EMAX, EXPONENTS from - BIAS to EMAX - P + 1. */
    private static void edgesOfTheFormat(int f) {
        due("EMAX - P + 1", GREATEST[f], EMAX[f] - P[f] + 1);
        read(f, 0, nines(P[f]) + "E" + GREATEST[f], greatest(f) + " 0");
        read(f, 0, "9." + nines(P[f] - 1) + "E" + EMAX[f], greatest(f) + " 0");
        read(f, 0, "1E" + -BIAS[f], least(f) + " 0");
        read(f, 0, "-0E" + -BIAS[f], "-0E" + -BIAS[f] + " 0");
        read(f, 0, "0E" + GREATEST[f], "0E" + GREATEST[f] + " 0");
        read(f, 0, nines(P[f]), nines(P[f]) + "E0 0");
        read(f, 0, ten(P[f]), ten(P[f] - 1) + "E1 0");
        read(f, 0, nines(P[f]) + "9", ten(P[f] - 1) + "E2 16");
    }

    /** Such with the same value, but other q, are different data. */
    private static void sameValueOtherExponent(int f) {
        DecimalBits x = new DecimalBits();
        String[][] pairs = {{"1E1", "10E0"}, {"0E0", "0E1"}, {"-0E-1", "-0E0"}, {"700E-2", "7E0"}};
        for (String[] pair : pairs) {
            set(x, 0, f, pair[0]);
            set(x, 1, f, pair[1]);
            due("bits of " + pair[0] + " and " + pair[1], hex(x, 0).equals(hex(x, 1)), false);
            due("compare of " + pair[0] + " and " + pair[1], x.compare(0, 1, false), 0);
            due("alike of " + pair[0] + " and " + pair[1], x.alike(0, 1), false);
            due("ordered one way alone", x.ordered(0, 1) != x.ordered(1, 0), true);
        }
    }

    private static void kind(int f, String datum, int want) {
        DecimalBits x = new DecimalBits();
        x.trap(31);
        set(x, 2, f, datum);
        due("kind of " + datum + " in format " + f, x.kind(2), want);
        due("flags behind kind", x.flags(), 0);
    }

    private static void kinds(int f) {
        int q = -BIAS[f];
        String[] more = {ten(P[f] - 1) + "E" + q, "1E" + (1 - EMAX[f]), nines(P[f]) + "E" + q, greatest(f), "1E0"};
        String[] less = {nines(P[f] - 1) + "E" + q, "1E" + -EMAX[f], least(f), "9E" + -EMAX[f]};
        String[] zeros = {"0E0", "0E" + q, "0E" + GREATEST[f], "0E" + (1 - EMAX[f])};
        for (String datum : more) {
            kind(f, datum, 8);
            kind(f, "-" + datum, 3);
        }
        for (String datum : less) {
            kind(f, datum, 7);
            kind(f, "-" + datum, 4);
        }
        for (String datum : zeros) {
            kind(f, datum, 6);
            kind(f, "-" + datum, 5);
        }
        kind(f, "Infinity", 9);
        kind(f, "-Infinity", 2);
        for (String sign : new String[] {"", "-"}) {
            kind(f, sign + "sNaN", 0);
            kind(f, sign + "sNaN" + nines(P[f] - 1), 0);
            kind(f, sign + "NaN", 1);
            kind(f, sign + "NaN" + nines(P[f] - 1), 1);
        }
    }

    private static void alike(int f, String a, String b, boolean want) {
        DecimalBits x = new DecimalBits();
        x.trap(31);
        set(x, 0, f, a);
        set(x, 1, f, b);
        due("alike of " + a + " and " + b + " in format " + f, x.alike(0, 1), want);
        due("alike of " + b + " and " + a + " in format " + f, x.alike(1, 0), want);
        due("alike of one and itself", x.alike(0, 0), true);
        due("flags behind alike", x.flags(), 0);
    }

    private static void likeness(int f) {
        alike(f, greatest(f), "-0E" + GREATEST[f], true);
        alike(f, least(f), nines(P[f]) + "E" + -BIAS[f], true);
        alike(f, least(f), "1E" + (1 - BIAS[f]), false);
        alike(f, "0E0", "-1E0", true);
        alike(f, "0E0", "0E1", false);
        alike(f, "NaN1", "-sNaN2", true);
        alike(f, "sNaN", "NaN" + nines(P[f] - 1), true);
        alike(f, "Infinity", "-Infinity", true);
        alike(f, "Infinity", "NaN", false);
        alike(f, "-Infinity", "0E0", false);
        alike(f, "NaN", "0E0", false);
        alike(f, "sNaN", "Infinity", false);
        DecimalBits x = new DecimalBits();
        for (int g = 0; g < 3; g++) {
            for (String datum : new String[] {"1E0", "NaN", "Infinity"}) {
                set(x, 3, f, datum);
                set(x, 4, g, datum);
                due("alike of formats " + f + " and " + g, x.alike(3, 4), f == g);
            }
        }
        due("an operation's format", x.one(9, 0, 3), 0);
        due("alike with LAST", x.alike(8, 3), true);
        due("alike with LAST", x.alike(3, 8), true);
        due("alike of LAST and a zero", x.alike(8, 7), false);
        due("alike of LAST and itself", x.alike(8, 8), true);
    }

    /** A register's datum tells nothing of the one that was there before. */
    private static void oneDatumBehindAnother() {
        String[] data = {"12E-3", "-0E5", "Infinity", "-Infinity", "NaN", "-NaN7", "sNaN", "sNaN8", "-99E9"};
        for (int k = 0; k < 9 * data.length * data.length; k++) {
            String first = data[k / 9 % data.length];
            String second = data[k / 9 / data.length];
            String negated = first.startsWith("-") ? first.substring(1) : "-" + first;
            int f = k % 3;
            int g = k / 3 % 3;
            DecimalBits x = new DecimalBits();
            set(x, 0, f, first);
            x.one(9, 1, 0);
            set(x, 0, g, second);
            due("load of " + second + " behind " + first, datum(x, 0) + " " + x.format(0), second + " " + g);
            due("LAST behind it", datum(x, 8) + " " + x.format(8), negated + " " + f);
            x.one(9, 1, 0);
            x.one(9, 1, 1);
            due("a result behind another", datum(x, 1) + " " + x.format(1), second + " " + g);
        }
    }

    private static void wordsThatAreNotLookedAt() {
        DecimalBits x = new DecimalBits();
        x.load(0, 0, 0x32800007, -1, -1, -1);
        due("load of 32 bits", datum(x, 0), "7E0");
        x.load(0, 1, 0x31c00000, 7, -1, -1);
        due("load of 64 bits", datum(x, 0), "7E0");
        x.load(0, 2, 0x30400000, 0, 0, 7);
        due("load of 128 bits", datum(x, 0), "7E0");
        x.load(0, 2, 0x30400000, -1, -1, -1);
        due("words with the highest bit 1", datum(x, 0), "79228162514264337593543950335E0");
        x.load(0, 1, 0x31c00000, 0x80000000, 0, 0);
        due("a word with the highest bit 1", datum(x, 0), "2147483648E0");
    }

    /** 0 if there are none such, also where another datum had some before. */
    private static void wordsThatAreNotThere() {
        DecimalBits x = new DecimalBits();
        int[][] words = {{0x32800007}, {0x31c11111, 0x22222222}, {0x30401111, 0x22222222, 0x33333333, 0x44444444}};
        for (int f = 2; f >= 0; f--) {
            x.load(0, 2, 0x30401111, 0x22222222, 0x33333333, 0x44444444);
            due("bits(0, 3)", x.bits(0, 3), 0x44444444);
            x.load(0, f, words[f][0], 0x22222222, 0x33333333, 0x44444444);
            for (int k = 0; k < 6; k++) {
                due("bits(0, " + k + ") of format " + f, x.bits(0, k), k < words[f].length ? words[f][k] : 0);
            }
            for (int k : new int[] {-1, -4, 32, 1 << 30, (1 << 30) + 1, Integer.MIN_VALUE, Integer.MAX_VALUE}) {
                due("bits(0, " + k + ")", x.bits(0, k), 0);
            }
        }
    }

    private static void registersThatAreNotThere() {
        DecimalBits x = new DecimalBits();
        for (int r = 0; r <= 7; r++) {
            set(x, r, r % 3, "1" + r + "E0");
        }
        for (int r = 0; r <= 7; r++) {
            due("register " + r, datum(x, r) + " " + x.format(r), "1" + r + "E0 " + r % 3);
        }
        due("LAST stays when registers are loaded", datum(x, 8) + " " + x.format(8), "0E0 1");
        for (int r : NO_REGISTERS) {
            due("bits of register " + r, x.bits(r, 0), 0);
            due("format of register " + r, x.format(r), DecimalBits.NONE);
            due("kind of register " + r, x.kind(r), DecimalBits.NONE);
            due("alike of register " + r, x.alike(r, r), false);
            due("alike of register " + r, x.alike(0, r), false);
            due("alike of register " + r, x.alike(r, 0), false);
        }
        for (int r : NO_TARGETS) {
            refused("load to register " + r, () -> {
                x.load(r, 1, 1, 1, 1, 1);
                return 0;
            });
        }
        for (int f : NO_FORMATS) {
            refused("load of format " + f, () -> {
                x.load(0, f, 1, 1, 1, 1);
                return 0;
            });
            refused("load of format " + f + " to no register", () -> {
                x.load(8, f, 1, 1, 1, 1);
                return 0;
            });
        }
        for (int r = 0; r <= 7; r++) {
            due("register " + r + " behind refused loads", datum(x, r) + " " + x.format(r), "1" + r + "E0 " + r % 3);
        }
        due("LAST behind refused loads", datum(x, 8) + " " + x.format(8), "0E0 1");
        due("flags behind refused loads", x.flags(), 0);
    }
}

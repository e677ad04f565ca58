/** Each promise of the document: ordinary inputs, the edges that it names, and wrong inputs. */
public final class PromiseTest extends Checks {
    public static void main(String[] args) {
        promise1();
        promise2();
        promise3();
        promises4to8();
        promise9Sums();
        promise9Products();
        promise9Remainders();
        promise9Quantize();
        promise9Choices();
        promise9Refusals();
        rounding();
        traps();
        promise10();
        promise11Root();
        promise11Whole();
        promise11Next();
        promise11Others();
        promise12();
        promise13();
        promise14();
        promise15();
        promise16();
        promise17();
        promise18();
        promise19();
        promise20();
        promises21and22();
        promise22Refusals();
        promises23and24();
        end();
    }

    private static void load(DecimalBits x, int r, String hex) {
        int[] words = new int[4];
        for (int k = 0; k < hex.length() / 8; k++) {
            words[k] = Integer.parseUnsignedInt(hex.substring(8 * k, 8 * k + 8), 16);
        }
        int f = hex.length() == 8 ? 0 : hex.length() == 16 ? 1 : 2;
        x.load(r, f, words[0], words[1], words[2], words[3]);
    }

    private static void promise1() {
        DecimalBits x = new DecimalBits();
        due("NONE", DecimalBits.NONE, -1);
        for (int r = 0; r <= 8; r++) {
            due("format of a new register", x.format(r), 1);
            due("bits of a new register", hex(x, r), "31c0000000000000");
            due("kind of a new register", x.kind(r), 6);
        }
        due("new flags", x.flags(), 0);
        due("new output", x.output(0), -1);
        refused("reading the new text", () -> x.read(0, 1));
        put(x, 0, 1, "1");
        put(x, 1, 1, "3");
        due("the new object has no traps", x.two(3, 2, 0, 1), INEXACT);
        due("the new direction", text(x, 2), "0.3333333333333333");
        due("a tie in the new direction", put(x, 3, 0, "12345685"), INEXACT);
        due("a tie in the new direction", text(x, 3), "1.234568E+7");
    }

    private static void loaded(String hex, String wantText, String wantHex) {
        DecimalBits x = new DecimalBits();
        load(x, 5, hex);
        due("text of " + hex, text(x, 5), wantText);
        due("bits of " + hex, hex(x, 5), wantHex);
        due("LAST stays", hex(x, 8), "31c0000000000000");
        due("load signals nothing", x.flags(), 0);
    }

    private static void promise2() {
        loaded("32800001", "1", "32800001");
        loaded("b2800001", "-1", "b2800001");
        loaded("00000000", "0E-101", "00000000");
        loaded("5f800000", "0E+90", "5f800000");
        loaded("327fffff", "838860.7", "327fffff");
        loaded("6ca00000", "8388608", "6ca00000");
        loaded("6cb8967f", "9999999", "6cb8967f");
        loaded("77f8967f", "9.999999E+96", "77f8967f");
        loaded("6cb89680", "0", "32800000");
        loaded("ecbfffff", "-0", "b2800000");
        loaded("78000000", "Infinity", "78000000");
        loaded("fbffffff", "-Infinity", "f8000000");
        loaded("7c000000", "NaN", "7c000000");
        loaded("7c0f423f", "NaN999999", "7c0f423f");
        loaded("7c0f4240", "NaN", "7c000000");
        loaded("fdf00005", "-NaN5", "fc000005");
        loaded("7e00000c", "sNaN12", "7e00000c");
        loaded("ffffffff", "-sNaN", "fe000000");
        loaded("31c0000000000001", "1", "31c0000000000001");
        loaded("31dfffffffffffff", "9007199254740991", "31dfffffffffffff");
        loaded("6c70000000000000", "9007199254740992", "6c70000000000000");
        loaded("6c7386f26fc0ffff", "9999999999999999", "6c7386f26fc0ffff");
        loaded("6c7386f26fc10000", "0", "31c0000000000000");
        loaded("77fb86f26fc0ffff", "9.999999999999999E+384", "77fb86f26fc0ffff");
        loaded("7c038d7ea4c67fff", "NaN999999999999999", "7c038d7ea4c67fff");
        loaded("7c038d7ea4c68000", "NaN", "7c00000000000000");
        loaded("7c04000000000007", "NaN7", "7c00000000000007");
        loaded("30400000000000000000000000000001", "1", "30400000000000000000000000000001");
        loaded("3041ed09bead87c0378d8e63ffffffff", "9999999999999999999999999999999999",
            "3041ed09bead87c0378d8e63ffffffff");
        loaded("3041ed09bead87c0378d8e6400000000", "0", "30400000000000000000000000000000");
        loaded("6c100000000000000000000000000001", "0", "30400000000000000000000000000000");
        loaded("7c00314dc6448d9338c15b09ffffffff", "NaN999999999999999999999999999999999",
            "7c00314dc6448d9338c15b09ffffffff");
        loaded("7c00314dc6448d9338c15b0a00000000", "NaN", "7c000000000000000000000000000000");
        DecimalBits x = new DecimalBits();
        x.load(3, 0, 0x32800007, -1, -1, -1);
        due("words that aren't looked at", hex(x, 3), "32800007");
        refused("load to 8", () -> {
            x.load(8, 0, 0, 0, 0, 0);
            return 0;
        });
        refused("load to -1", () -> {
            x.load(-1, 0, 0, 0, 0, 0);
            return 0;
        });
        refused("load of format 3", () -> {
            x.load(3, 3, 0, 0, 0, 0);
            return 0;
        });
        refused("load of format -1", () -> {
            x.load(3, -1, 0, 0, 0, 0);
            return 0;
        });
        due("a refused load does nothing", hex(x, 3), "32800007");
    }

    private static void promise3() {
        DecimalBits x = new DecimalBits();
        load(x, 0, "30400000111111112222222233333333");
        int[] wants = {0, 0x30400000, 0x11111111, 0x22222222, 0x33333333, 0};
        for (int k = -1; k < 5; k++) {
            due("bits " + k + " of 128", x.bits(0, k), wants[k + 1]);
        }
        load(x, 1, "31c0000000000009");
        due("bits 1 of 64", x.bits(1, 1), 9);
        due("bits 2 of 64", x.bits(1, 2), 0);
        load(x, 2, "32800009");
        due("bits 0 of 32", x.bits(2, 0), 0x32800009);
        due("bits 1 of 32", x.bits(2, 1), 0);
        due("bits of register 9", x.bits(9, 0), 0);
        due("bits of register -1", x.bits(-1, 0), 0);
        x.one(9, 3, 2);
        due("bits of LAST", x.bits(8, 0), 0xb2800009);
    }

    private static void promises4to8() {
        DecimalBits x = new DecimalBits();
        put(x, 0, 2, "1");
        due("format(0)", x.format(0), 2);
        due("format(8)", x.format(8), 2);
        due("format(1)", x.format(1), 1);
        due("format(9)", x.format(9), -1);
        due("format(-1)", x.format(-1), -1);
        for (int m = -1; m <= 5; m++) {
            due("direct(" + m + ")", x.direct(m), m >= 0 && m <= 4);
        }
        due("the direction that stays is 4", put(x, 1, 0, "12345685"), INEXACT);
        due("the direction that stays is 4", text(x, 1), "1.234569E+7");
        due("flags()", x.flags(), INEXACT);
        put(x, 1, 1, "1");
        put(x, 2, 1, "0");
        x.two(3, 3, 1, 2);
        due("flags are added", x.flags(), INEXACT + DIVISION);
        x.two(0, 3, 1, 1);
        due("flags stay", x.flags(), INEXACT + DIVISION);
        due("lower of one that isn't set", x.lower(INVALID + OVERFLOW), 0);
        due("lower of one that is, and one that isn't", x.lower(INEXACT + UNDERFLOW), INEXACT);
        due("flags behind lower", x.flags(), DIVISION);
        due("lower of all", x.lower(-1), DIVISION);
        due("flags behind lower of all", x.flags(), 0);
        x.trap(-32);
        due("other traps mean nothing", outcome(() -> x.two(3, 3, 1, 2)), "answers " + DIVISION);
        x.trap(DIVISION + 64);
        due("a trap", outcome(() -> x.two(3, 3, 1, 2)), "ArithmeticException");
        x.trap(INVALID);
        due("a trap that is no more", outcome(() -> x.two(3, 3, 1, 2)), "answers " + DIVISION);
    }

    private static void promise9Sums() {
        two(0, 1, 0, "0.1", "0.20", "0.30 0");
        two(0, 0, 0, "9999999", "1", "1.000000E+7 0");
        two(0, 0, 0, "9999999", "0.5", "1.000000E+7 16");
        two(0, 0, 0, "9999998", "0.5", "9999998 16");
        two(0, 0, 4, "9999998", "0.5", "9999999 16");
        twoInAll(0, 0, "1234567", "1E-50", "1234567 16", "1234567 16", "1234568 16", "1234567 16", "1234567 16");
        twoInAll(0, 0, "1000000", "-1E-50", "1000000 16", "999999.9 16", "1000000 16", "999999.9 16", "1000000 16");
        two(0, 0, 0, "1E+90", "-1E-101", "1.000000E+90 16");
        two(0, 2, 0, "1E+6111", "1E-6176", "1.000000000000000000000000000000000E+6111 16");
        two(0, 1, 0, "1", "0E-5", "1.00000 0");
        two(0, 1, 0, "0E-398", "1", "1.000000000000000 0");
        two(0, 1, 0, "1E+3", "1", "1001 0");
        two(0, 1, 0, "1", "-1", "0 0");
        two(0, 1, 3, "1", "-1", "-0 0");
        two(0, 1, 0, "1.00", "-1", "0.00 0");
        two(0, 1, 0, "0", "-0", "0 0");
        two(0, 1, 3, "0", "-0", "-0 0");
        two(0, 1, 3, "0", "0", "0 0");
        two(0, 1, 0, "-0", "-0.0", "-0.0 0");
        two(1, 1, 0, "3", "5", "-2 0");
        two(1, 1, 0, "0", "0", "0 0");
        two(1, 1, 3, "0", "0", "-0 0");
        two(1, 1, 0, "-0", "0", "-0 0");
        two(1, 1, 0, "-0", "-0", "0 0");
        two(0, 1, 0, "inf", "1", "Infinity 0");
        two(0, 1, 0, "1", "-inf", "-Infinity 0");
        two(0, 1, 0, "inf", "inf", "Infinity 0");
        two(0, 1, 0, "inf", "-inf", "NaN 1");
        two(1, 1, 0, "inf", "inf", "NaN 1");
        two(1, 1, 0, "inf", "-inf", "Infinity 0");
        two(1, 1, 0, "1", "inf", "-Infinity 0");
        two(0, 1, 0, "NaN3", "sNaN4", "NaN4 1");
        two(0, 1, 0, "-NaN3", "NaN4", "-NaN3 0");
        two(0, 1, 0, "1", "-NaN4", "-NaN4 0");
        two(1, 1, 0, "1", "-NaN4", "-NaN4 0");
        two(1, 1, 0, "sNaN", "-sNaN4", "NaN 1");
    }

    private static void promise9Products() {
        two(2, 1, 0, "1.20", "3", "3.60 0");
        two(2, 1, 0, "-3", "7E+5", "-2.1E+6 0");
        two(2, 0, 0, "9999999", "9999999", "9.999998E+13 16");
        two(2, 0, 2, "9999999", "9999999", "9.999999E+13 16");
        two(2, 0, 0, "-0", "5E+3", "-0E+3 0");
        two(2, 0, 0, "0E-90", "0E-90", "0E-101 0");
        two(2, 0, 0, "1E+60", "1E+36", "1.000000E+96 0");
        two(2, 0, 0, "1E+60", "1E+37", "Infinity 20");
        two(2, 0, 1, "1E+60", "1E+37", "9.999999E+96 20");
        two(2, 0, 3, "-1E+60", "1E+37", "-Infinity 20");
        two(2, 0, 2, "-1E+60", "1E+37", "-9.999999E+96 20");
        twoInAll(2, 0, "1E-60", "5E-42", "0E-101 24", "0E-101 24", "1E-101 24", "0E-101 24", "1E-101 24");
        twoInAll(2, 0, "-1E-60", "1E-60", "-0E-101 24", "-0E-101 24", "-0E-101 24", "-1E-101 24", "-0E-101 24");
        two(2, 0, 0, "1E-60", "1E-41", "1E-101 0");
        two(2, 1, 0, "inf", "-2", "-Infinity 0");
        two(2, 1, 0, "inf", "0", "NaN 1");
        two(2, 1, 0, "-0", "-inf", "NaN 1");
        two(2, 1, 0, "NaN1", "sNaN2", "NaN2 1");
        two(3, 1, 0, "1", "3", "0.3333333333333333 16");
        two(3, 1, 2, "1", "3", "0.3333333333333334 16");
        two(3, 1, 0, "2", "-3", "-0.6666666666666667 16");
        two(3, 1, 1, "2", "-3", "-0.6666666666666666 16");
        two(3, 1, 0, "1", "8", "0.125 0");
        two(3, 1, 0, "1.000", "2", "0.500 0");
        two(3, 1, 0, "2.400", "2.00", "1.2 0");
        two(3, 1, 0, "600", "3E+1", "20.0 0");
        two(3, 1, 0, "24", "1.2", "2E+1 0");
        two(3, 0, 0, "9999999", "1E-90", "9.999999E+96 0");
        two(3, 0, 0, "9999999", "1E-91", "Infinity 20");
        two(3, 0, 0, "1E-101", "2", "0E-101 24");
        two(3, 0, 0, "3E-101", "2", "2E-101 24");
        two(3, 1, 0, "0", "0", "NaN 1");
        two(3, 1, 0, "inf", "-inf", "NaN 1");
        two(3, 1, 0, "inf", "-0", "-Infinity 0");
        two(3, 1, 0, "1", "-0", "-Infinity 2");
        two(3, 1, 0, "-1", "inf", "-0E-398 0");
        two(3, 1, 0, "0", "inf", "0E-398 0");
        two(3, 1, 0, "0E+2", "-4E-1", "-0E+3 0");
        two(3, 1, 0, "0E-300", "4E+300", "0E-398 0");
        two(3, 1, 0, "NaN1", "0", "NaN1 0");
        two(3, 2, 0, "1", "7", "0.1428571428571428571428571428571429 16");
    }

    private static void promise9Remainders() {
        two(4, 1, 0, "7", "3", "1 0");
        two(4, 1, 0, "8", "3", "-1 0");
        two(4, 1, 0, "-8", "3", "1 0");
        two(4, 1, 0, "5", "2", "1 0");
        two(4, 1, 0, "7", "2", "-1 0");
        two(4, 1, 0, "3", "-2", "-1 0");
        two(4, 1, 0, "-6", "3", "-0 0");
        two(4, 1, 0, "6", "-3", "0 0");
        two(4, 1, 0, "10.50", "3", "-1.50 0");
        two(4, 1, 0, "7.50", "3", "1.50 0");
        two(4, 1, 0, "4.5", "3.00", "-1.50 0");
        two(4, 1, 0, "1", "1E+300", "1 0");
        two(4, 1, 0, "1E+300", "7", "1 0");
        two(4, 2, 0, "1E+6111", "7E-6176", "-2E-6176 0");
        two(4, 1, 0, "0", "3E-5", "0.00000 0");
        two(4, 1, 0, "-0", "3", "-0 0");
        two(4, 1, 0, "inf", "3", "NaN 1");
        two(4, 1, 0, "3", "0", "NaN 1");
        two(4, 1, 0, "inf", "inf", "NaN 1");
        two(4, 1, 0, "1E+5", "-inf", "1E+5 0");
        two(4, 1, 0, "sNaN9", "0", "NaN9 1");
    }

    private static void promise9Quantize() {
        twoInAll(5, 1, "2.5", "1", "2 16", "2 16", "3 16", "2 16", "3 16");
        twoInAll(5, 1, "-2.5", "7", "-2 16", "-2 16", "-2 16", "-3 16", "-3 16");
        two(5, 1, 0, "2.5", "0.001", "2.500 0");
        two(5, 1, 0, "2.50", "0.1", "2.5 0");
        two(5, 1, 0, "-0", "1E+5", "-0E+5 0");
        two(5, 1, 0, "0", "1E-398", "0E-398 0");
        two(5, 1, 0, "4", "1E+5", "0E+5 16");
        two(5, 1, 2, "4", "1E+369", "1E+369 16");
        two(5, 0, 0, "1E-101", "1E-95", "0E-95 16");
        two(5, 0, 0, "1234567", "1E-1", "NaN 1");
        two(5, 0, 0, "123456", "1E-1", "123456.0 0");
        two(5, 0, 0, "999999.9", "1", "1000000 16");
        two(5, 1, 0, "inf", "-inf", "Infinity 0");
        two(5, 1, 0, "-inf", "inf", "-Infinity 0");
        two(5, 1, 0, "inf", "1", "NaN 1");
        two(5, 1, 0, "1", "inf", "NaN 1");
        two(5, 1, 0, "1", "NaN5", "NaN5 0");
    }

    private static void promise9Choices() {
        two(6, 1, 0, "3", "2.0", "2.0 0");
        two(7, 1, 0, "3", "2.0", "3 0");
        two(6, 1, 0, "2.0", "2", "2.0 0");
        two(7, 1, 0, "2.0", "2", "2.0 0");
        two(6, 1, 0, "0", "-0", "0 0");
        two(7, 1, 0, "-0", "0", "-0 0");
        two(6, 1, 0, "-inf", "-3", "-Infinity 0");
        two(7, 1, 0, "-inf", "-3", "-3 0");
        two(6, 1, 0, "NaN5", "-3E+2", "-3E+2 0");
        two(7, 1, 0, "-3.00", "NaN5", "-3.00 0");
        two(6, 1, 0, "NaN5", "NaN6", "NaN5 0");
        two(6, 1, 0, "NaN5", "sNaN6", "NaN6 1");
        two(7, 1, 0, "sNaN5", "3", "NaN5 1");
        two(8, 1, 0, "3", "-3", "-3 0");
        two(9, 1, 0, "-3", "3", "3 0");
        two(8, 1, 0, "-4", "3", "3 0");
        two(9, 1, 0, "3", "-4", "-4 0");
        two(8, 1, 0, "3.0", "3", "3.0 0");
        two(8, 1, 0, "inf", "-inf", "-Infinity 0");
        two(9, 1, 0, "-inf", "5", "-Infinity 0");
        two(9, 1, 0, "5", "NaN", "5 0");
        two(8, 1, 0, "5", "sNaN", "NaN 1");
        two(10, 1, 0, "5", "-0", "-5 0");
        two(10, 1, 0, "-5", "NaN", "5 0");
        two(10, 1, 0, "sNaN7", "-sNaN", "-sNaN7 0");
        two(10, 1, 0, "-inf", "2", "Infinity 0");
    }

    private static void promise9Refusals() {
        DecimalBits x = new DecimalBits();
        put(x, 0, 1, "1");
        put(x, 1, 0, "1");
        put(x, 2, 1, "0");
        put(x, 3, 1, "2");
        refused("two 11", () -> x.two(11, 4, 0, 0));
        refused("two -1", () -> x.two(-1, 4, 0, 0));
        refused("two into 8", () -> x.two(0, 8, 0, 0));
        refused("two into -1", () -> x.two(0, -1, 0, 0));
        refused("two of 9", () -> x.two(0, 4, 9, 0));
        refused("two of -1", () -> x.two(0, 4, 0, -1));
        refused("two of two formats", () -> x.two(0, 4, 0, 1));
        refused("copy sign of two formats", () -> x.two(10, 4, 0, 1));
        x.trap(31);
        refused("a refused division by 0", () -> x.two(3, 8, 0, 2));
        x.trap(0);
        due("nothing was done", x.flags() + " " + text(x, 4) + " " + text(x, 8), "0 0 2");
        due("LAST as operand, the target among them", x.two(0, 3, 8, 3), 0);
        due("LAST as operand, the target among them", text(x, 3), "4");
        due("LAST as both", x.two(2, 8 - 1, 8, 8), 0);
        due("LAST as both", text(x, 7), "16");
        due("the result has the operands' format", x.two(0, 0, 1, 1), 0);
        due("the result has the operands' format", x.format(0) + " " + text(x, 0), "0 2");
    }

    private static void rounding() {
        DecimalBits x = new DecimalBits();
        due("the greatest number", put(x, 0, 0, "9.999999E96"), 0);
        due("above it, by less than half", put(x, 0, 0, "9.9999994E96"), INEXACT);
        due("above it, by less than half", text(x, 0), "9.999999E+96");
        due("above it, by half", put(x, 0, 0, "9.9999995E96"), OVERFLOW + INEXACT);
        due("above it, by half", text(x, 0), "Infinity");
        x.direct(1);
        due("above it, to 0", put(x, 0, 0, "9.9999999E96"), INEXACT);
        due("far above it, to 0", put(x, 0, 0, "-1E97"), OVERFLOW + INEXACT);
        due("far above it, to 0", text(x, 0), "-9.999999E+96");
        x.direct(0);
        due("an exact small one", put(x, 0, 0, "1E-96"), 0);
        due("less than 10 to the (1 - EMAX), ahead of rounding", put(x, 0, 0, "9.9999999E-96"), UNDERFLOW + INEXACT);
        due("less than 10 to the (1 - EMAX), ahead of rounding", text(x, 0), "1.000000E-95");
        due("not less than it", put(x, 0, 0, "1.0000001E-95"), INEXACT);
        due("q nearest to a high wish", put(x, 0, 0, "1E+95"), 0);
        due("q nearest to a high wish", text(x, 0), "1.00000E+95");
        due("q nearest to a low wish", put(x, 0, 0, "1.0000000000"), 0);
        due("q nearest to a low wish", text(x, 0), "1.000000");
        due("zeros stay in reach", put(x, 0, 0, "0E+500"), 0);
        due("zeros stay in reach", text(x, 0), "0E+90");
        due("c grows by a digit", put(x, 0, 0, "9999999.5"), INEXACT);
        due("c grows by a digit", text(x, 0), "1.000000E+7");
    }

    private static void traps() {
        DecimalBits x = new DecimalBits();
        put(x, 0, 1, "1");
        put(x, 1, 1, "3");
        put(x, 2, 1, "42");
        x.trap(INEXACT);
        due("a trapped division", outcome(() -> x.two(3, 2, 0, 1)), "ArithmeticException");
        due("its result is in LAST", text(x, 8), "0.3333333333333333");
        due("d stays", text(x, 2), "42");
        due("the flag is set", x.flags(), INEXACT);
        due("an exact one", outcome(() -> x.two(0, 2, 0, 1)), "answers 0");
        x.trap(OVERFLOW);
        type(x, "1E500");
        due("a trapped reading", outcome(() -> x.read(2, 1)), "ArithmeticException");
        due("its result is in LAST", text(x, 8), "Infinity");
        due("d stays", text(x, 2), "4");
        due("both flags are set", x.flags(), INEXACT + OVERFLOW);
        refused("the text is empty then", () -> x.read(2, 1));
        x.trap(INVALID);
        put(x, 3, 1, "sNaN");
        due("a SNAN that is read signals nothing", x.kind(3), 0);
        due("a trapped log", outcome(() -> x.log(3)), "ArithmeticException");
        due("a trapped comparison", outcome(() -> x.compare(3, 0, true)), "ArithmeticException");
        due("a trapped whole number", outcome(() -> x.whole(3, 0, false)), "ArithmeticException");
        due("LAST stays", text(x, 8), "sNaN");
        due("a trapped fused", outcome(() -> x.fused(4, 3, 0, 0)), "ArithmeticException");
        due("a trapped one", outcome(() -> x.one(11, 4, 3)), "ArithmeticException");
        due("a trapped scale", outcome(() -> x.scale(4, 3, 1)), "ArithmeticException");
        due("a trapped convert", outcome(() -> x.convert(4, 3, 2)), "ArithmeticException");
        due("LAST has the result's format", x.format(8), 2);
        due("d stays", x.format(4) + text(x, 4), "10");
        x.trap(INEXACT);
        due("a trapped number", outcome(() -> x.number(4, 0, 1, 1)), "ArithmeticException");
        due("LAST has the result", text(x, 8), "4.294967E+9");
        put(x, 5, 1, "0.4");
        due("whole number, exactly asked", outcome(() -> x.whole(5, 0, true)), "ArithmeticException");
        due("whole number, not asked", outcome(() -> x.whole(5, 0, false)), "answers 0");
    }

    private static void promise10() {
        fused(1, 0, "2", "3", "4", "10 0");
        fused(2, 0, "1234567890123456789012345678901234", "1.000000000000000000000000000000001",
            "-1234567890123456789012345678901235", "0.234567890123456789012345678901234 0");
        fused(0, 0, "1000001", "1000001", "-1.000002E+12", "1 0");
        fused(0, 0, "9999999", "9999999", "1E-50", "9.999998E+13 16");
        fused(0, 2, "1E-60", "1E-60", "1", "1.000001 16");
        fused(0, 3, "-1E-60", "1E-60", "1", "0.9999999 16");
        fused(0, 0, "5E+89", "1E+90", "1", "Infinity 20");
        fused(0, 0, "1E+90", "1E+90", "inf", "Infinity 0");
        fused(1, 0, "2", "3", "0E-3", "6.000 0");
        fused(1, 0, "0E-3", "3", "6", "6.000 0");
        fused(1, 0, "2", "3", "-6", "0 0");
        fused(1, 3, "2", "3", "-6", "-0 0");
        fused(1, 0, "-0", "3", "-0", "-0 0");
        fused(1, 0, "-0", "3", "0", "0 0");
        fused(0, 0, "-1E-60", "1E-60", "0", "-0E-101 24");
        fused(1, 0, "inf", "2", "-inf", "NaN 1");
        fused(1, 0, "inf", "-2", "-inf", "-Infinity 0");
        fused(1, 0, "2", "3", "-inf", "-Infinity 0");
        fused(1, 0, "inf", "0", "1", "NaN 1");
        fused(1, 0, "inf", "0", "-NaN5", "-NaN5 1");
        fused(1, 0, "0", "inf", "sNaN5", "NaN5 1");
        fused(1, 0, "NaN1", "NaN2", "sNaN3", "NaN3 1");
        fused(1, 0, "1", "NaN2", "NaN3", "NaN2 0");
        DecimalBits x = new DecimalBits();
        put(x, 1, 0, "1");
        refused("fused into 8", () -> x.fused(8, 0, 0, 0));
        refused("fused of 9", () -> x.fused(3, 9, 0, 0));
        refused("fused of -1", () -> x.fused(3, 0, -1, 0));
        refused("fused of 9", () -> x.fused(3, 0, 0, 9));
        refused("fused of other formats, a", () -> x.fused(3, 1, 0, 0));
        refused("fused of other formats, b", () -> x.fused(3, 0, 1, 0));
        refused("fused of other formats, c", () -> x.fused(3, 0, 0, 1));
        due("LAST as operand", outcome(() -> x.fused(3, 8, 8, 8)), "answers 0");
    }

    private static void promise11Root() {
        one(0, 1, 0, "4", "2 0");
        one(0, 1, 0, "4.00", "2.0 0");
        one(0, 1, 0, "1E+3", "31.62277660168379 16");
        one(0, 1, 0, "1E+4", "1E+2 0");
        one(0, 1, 0, "4E-1", "0.6324555320336759 16");
        one(0, 2, 0, "2", "1.414213562373095048801688724209698 16");
        one(0, 2, 2, "2", "1.414213562373095048801688724209699 16");
        one(0, 0, 0, "9999999", "3162.278 16");
        one(0, 0, 1, "9999999", "3162.277 16");
        one(0, 0, 0, "0.9999999", "0.9999999 16");
        one(0, 0, 2, "0.9999999", "1.000000 16");
        one(0, 0, 0, "1E-101", "3.162278E-51 16");
        one(0, 1, 0, "0E-3", "0.00 0");
        one(0, 1, 0, "-0E+5", "-0E+2 0");
        one(0, 1, 0, "-1", "NaN 1");
        one(0, 1, 0, "-inf", "NaN 1");
        one(0, 1, 0, "inf", "Infinity 0");
        one(0, 1, 0, "-sNaN8", "-NaN8 1");
    }

    private static void promise11Whole() {
        String[] ofHalf = {"2", "2", "3", "2", "3"};
        String[] ofMinusHalf = {"-2", "-2", "-2", "-3", "-3"};
        for (int m = 0; m < 5; m++) {
            one(1 + m, 1, 4 - m, "2.5", ofHalf[m] + " 0");
            one(1 + m, 1, 4 - m, "-2.5", ofMinusHalf[m] + " 0");
            one(6, 1, m, "2.5", ofHalf[m] + " 16");
            one(6, 1, m, "-2.5", ofMinusHalf[m] + " 16");
        }
        one(1, 1, 0, "3.5", "4 0");
        one(1, 1, 0, "-0.4", "-0 0");
        one(3, 0, 0, "1E-101", "1 0");
        one(6, 1, 0, "2.00", "2 0");
        one(6, 1, 0, "2E+5", "2E+5 0");
        one(6, 1, 0, "0E-5", "0 0");
        one(6, 1, 0, "0E+5", "0E+5 0");
        one(2, 1, 0, "-inf", "-Infinity 0");
        one(6, 1, 0, "NaN5", "NaN5 0");
        one(4, 1, 0, "sNaN5", "NaN5 1");
    }

    private static void promise11Next() {
        one(7, 0, 0, "1", "1.000001 0");
        one(7, 0, 0, "-1", "-0.9999999 0");
        one(7, 0, 0, "9999999", "1.000000E+7 0");
        one(7, 0, 0, "9.999999E96", "Infinity 0");
        one(7, 0, 0, "-9.999999E96", "-9.999998E+96 0");
        one(7, 0, 0, "inf", "Infinity 0");
        one(7, 0, 0, "-inf", "-9.999999E+96 0");
        one(7, 0, 0, "0E+3", "1E-101 0");
        one(7, 0, 0, "-0", "1E-101 0");
        one(7, 0, 0, "-1E-101", "-0E-101 0");
        one(7, 0, 0, "1E-101", "2E-101 0");
        one(7, 0, 0, "1E-99", "1.01E-99 0");
        one(7, 0, 0, "-1E-95", "-9.99999E-96 0");
        one(7, 0, 0, "NaN3", "NaN3 0");
        one(7, 0, 0, "sNaN3", "NaN3 1");
        one(8, 0, 0, "1", "0.9999999 0");
        one(8, 0, 0, "1.000000E+96", "9.999999E+95 0");
        one(8, 0, 0, "0", "-1E-101 0");
        one(8, 0, 0, "1E-101", "0E-101 0");
        one(8, 0, 0, "inf", "9.999999E+96 0");
        one(8, 0, 0, "-inf", "-Infinity 0");
        one(8, 0, 0, "-9.999999E96", "-Infinity 0");
        one(8, 0, 0, "-sNaN3", "-NaN3 1");
        one(8, 2, 0, "1", "0.9999999999999999999999999999999999 0");
    }

    private static void promise11Others() {
        one(9, 1, 0, "1.50", "-1.50 0");
        one(9, 1, 0, "-0", "0 0");
        one(9, 1, 0, "sNaN5", "-sNaN5 0");
        one(10, 1, 0, "-1.50", "1.50 0");
        one(10, 1, 0, "-sNaN5", "sNaN5 0");
        one(10, 1, 0, "-inf", "Infinity 0");
        one(11, 1, 0, "-1.50", "-1.50 0");
        one(11, 1, 0, "NaN5", "NaN5 0");
        one(11, 1, 0, "-sNaN5", "-NaN5 1");
        DecimalBits x = new DecimalBits();
        refused("one 12", () -> x.one(12, 0, 0));
        refused("one -1", () -> x.one(-1, 0, 0));
        refused("one into 8", () -> x.one(9, 8, 0));
        refused("one of 9", () -> x.one(9, 0, 9));
        refused("one of -1", () -> x.one(9, 0, -1));
        due("one of LAST", outcome(() -> x.one(9, 0, 8)), "answers 0");
        due("one of LAST", text(x, 0), "-0");
    }

    private static void promise12() {
        scaled(1, 0, "1.50", 3, "1.50E+3 0");
        scaled(1, 0, "-1.50", -3, "-0.00150 0");
        scaled(0, 0, "1", 96, "1.000000E+96 0");
        scaled(0, 0, "1", 97, "Infinity 20");
        scaled(0, 1, "1", 97, "9.999999E+96 20");
        scaled(0, 0, "1", -101, "1E-101 0");
        scaled(0, 0, "15", -102, "2E-101 24");
        scaled(0, 0, "10", -102, "1E-101 0");
        scaled(0, 0, "1", Integer.MAX_VALUE, "Infinity 20");
        scaled(0, 2, "1E-101", Integer.MIN_VALUE, "1E-101 24");
        scaled(0, 0, "-0", Integer.MAX_VALUE, "-0E+90 0");
        scaled(0, 0, "0", Integer.MIN_VALUE, "0E-101 0");
        scaled(0, 0, "-inf", 3, "-Infinity 0");
        scaled(0, 0, "sNaN3", 3, "NaN3 1");
        DecimalBits x = new DecimalBits();
        refused("scale into 8", () -> x.scale(8, 0, 0));
        refused("scale of 9", () -> x.scale(0, 9, 0));
    }

    private static void promise13() {
        converted(1, 0, 0, "1.50", "1.50 0");
        converted(1, 0, 0, "1.23456785", "1.234568 16");
        converted(1, 0, 3, "-1.23456785", "-1.234568 16");
        converted(1, 0, 1, "-1.23456785", "-1.234567 16");
        converted(1, 2, 0, "1.234567890123456", "1.234567890123456 0");
        converted(2, 1, 0, "1E+400", "Infinity 20");
        converted(2, 1, 0, "-1E-400", "-0E-398 24");
        converted(2, 0, 0, "-0E-400", "-0E-101 0");
        converted(2, 0, 0, "1E+96", "1.000000E+96 0");
        converted(1, 1, 0, "1.50", "1.50 0");
        converted(1, 0, 0, "-inf", "-Infinity 0");
        converted(1, 0, 0, "NaN123456789", "NaN456789 0");
        converted(2, 1, 0, "-sNaN98765432109876543210", "-NaN432109876543210 1");
        converted(0, 2, 0, "NaN123456", "NaN123456 0");
        converted(1, 1, 0, "sNaN5", "NaN5 1");
        converted(1, 0, 0, "NaN123000000", "NaN 0");
        DecimalBits x = new DecimalBits();
        refused("convert to format 3", () -> x.convert(0, 0, 3));
        refused("convert to format -1", () -> x.convert(0, 0, -1));
        refused("convert into 8", () -> x.convert(8, 0, 0));
        refused("convert of 9", () -> x.convert(0, 9, 0));
    }

    private static void promise14() {
        numbered(1, 0, 0, "0 0");
        numbered(1, 3, 0, "0 0");
        numbered(1, 0, -1, "-1 0");
        numbered(1, 0, 4294967295L, "4294967295 0");
        numbered(1, 0, -4294967296L, "-4294967296 0");
        numbered(0, 0, 12345675, "1.234568E+7 16");
        numbered(0, 1, -12345675, "-1.234567E+7 16");
        numbered(0, 0, 10000000, "1.000000E+7 0");
        numbered(2, 0, Long.MIN_VALUE, "-9223372036854775808 0");
        numbered(2, 0, Long.MAX_VALUE, "9223372036854775807 0");
        numbered(1, 0, Long.MIN_VALUE, "-9.223372036854776E+18 16");
        DecimalBits x = new DecimalBits();
        refused("number into 8", () -> x.number(8, 1, 0, 0));
        refused("number into -1", () -> x.number(-1, 1, 0, 0));
        refused("number to format 3", () -> x.number(0, 3, 0, 0));
        refused("number to format -1", () -> x.number(0, -1, 0, 0));
    }

    private static void wholeNumber(String a, int direction, boolean exactly, long want, int signals) {
        DecimalBits x = new DecimalBits();
        put(x, 0, 2, a);
        put(x, 1, 2, "77");
        due("whole of " + a + ", direction " + direction, x.whole(0, direction, exactly), want);
        due("its signals", x.flags(), signals);
        due("LAST stays", text(x, 8), "77");
    }

    private static void promise15() {
        long least = Long.MIN_VALUE;
        long[] ofHalf = {2, 2, 3, 2, 3, 2};
        long[] ofMinusHalf = {-2, -2, -2, -3, -3, -2};
        for (int m = 0; m <= 5; m++) {
            wholeNumber("2.5", m, true, ofHalf[m], INEXACT);
            wholeNumber("-2.5", m, false, ofMinusHalf[m], 0);
        }
        wholeNumber("-0.4", 1, true, 0, INEXACT);
        wholeNumber("-0", 0, true, 0, 0);
        wholeNumber("0E+6000", 0, true, 0, 0);
        wholeNumber("12E+3", 0, true, 12000, 0);
        wholeNumber("12.00", 0, true, 12, 0);
        wholeNumber("9223372036854775807", 0, true, Long.MAX_VALUE, 0);
        wholeNumber("9223372036854775807.4", 0, true, Long.MAX_VALUE, INEXACT);
        wholeNumber("9223372036854775807.5", 0, true, least, INVALID);
        wholeNumber("9223372036854775807.9", 3, false, Long.MAX_VALUE, 0);
        wholeNumber("9223372036854775808", 0, true, least, INVALID);
        wholeNumber("-9223372036854775808", 0, true, least, 0);
        wholeNumber("-9223372036854775808.5", 0, true, least, INEXACT);
        wholeNumber("-9223372036854775809", 0, true, least, INVALID);
        wholeNumber("9999999999999999999.9", 0, true, least, INVALID);
        wholeNumber("18446744073709551617", 0, true, least, INVALID);
        wholeNumber("1E+19", 0, true, least, INVALID);
        wholeNumber("1E+6000", 0, true, least, INVALID);
        wholeNumber("1E-6000", 2, true, 1, INEXACT);
        wholeNumber("inf", 0, false, least, INVALID);
        wholeNumber("NaN", 0, false, least, INVALID);
        wholeNumber("sNaN", 0, false, least, INVALID);
        DecimalBits x = new DecimalBits();
        put(x, 0, 1, "2.5");
        x.direct(4);
        due("whole in the present direction", x.whole(0, 5, false), 3L);
        refused("whole of 9", () -> x.whole(9, 0, false));
        refused("whole of -1", () -> x.whole(-1, 0, false));
        refused("whole in direction 6", () -> x.whole(0, 6, false));
        refused("whole in direction -1", () -> x.whole(0, -1, false));
    }

    private static void logOf(String a, int want, int signals) {
        DecimalBits x = new DecimalBits();
        put(x, 0, 1, a);
        put(x, 1, 1, "77");
        due("log of " + a, x.log(0), want);
        due("its signals", x.flags(), signals);
        due("LAST stays", text(x, 8), "77");
    }

    private static void promise16() {
        logOf("1", 0, 0);
        logOf("-999", 2, 0);
        logOf("0.05", -2, 0);
        logOf("1E-398", -398, 0);
        logOf("9.9E+384", 384, 0);
        logOf("0", Integer.MIN_VALUE, INVALID);
        logOf("inf", Integer.MIN_VALUE, INVALID);
        logOf("NaN", Integer.MIN_VALUE, INVALID);
        logOf("sNaN", Integer.MIN_VALUE, INVALID);
        DecimalBits x = new DecimalBits();
        refused("log of 9", () -> x.log(9));
        refused("log of -1", () -> x.log(-1));
    }

    private static void compared(String a, String b, boolean quiet, int want, int signals) {
        DecimalBits x = new DecimalBits();
        put(x, 0, 1, a);
        put(x, 1, 1, b);
        put(x, 2, 1, "77");
        due("compare of " + a + " and " + b, x.compare(0, 1, quiet), want);
        due("its signals", x.flags(), signals);
        due("LAST stays", text(x, 8), "77");
    }

    private static void promise17() {
        compared("1", "2", false, -1, 0);
        compared("2", "1.5", false, 1, 0);
        compared("1.0", "1", false, 0, 0);
        compared("-1.0", "-1", false, 0, 0);
        compared("-0E+5", "0E-5", false, 0, 0);
        compared("-1", "0", false, -1, 0);
        compared("0", "-1E-398", false, 1, 0);
        compared("-3", "-2", false, -1, 0);
        compared("1E+300", "9E-300", false, 1, 0);
        compared("1E+15", "1000000000000001", false, -1, 0);
        compared("inf", "9E+384", false, 1, 0);
        compared("-inf", "inf", false, -1, 0);
        compared("inf", "inf", false, 0, 0);
        compared("NaN", "1", true, 2, 0);
        compared("NaN", "1", false, 2, INVALID);
        compared("1", "sNaN", true, 2, INVALID);
        compared("sNaN", "NaN", false, 2, INVALID);
        DecimalBits x = new DecimalBits();
        put(x, 1, 0, "1");
        refused("compare of two formats", () -> x.compare(0, 1, true));
        refused("compare of 9", () -> x.compare(9, 0, true));
        refused("compare of -1", () -> x.compare(0, -1, true));
    }

    private static void promise18() {
        String[] order = {
            "-NaN7", "-NaN", "-sNaN7", "-sNaN", "-inf", "-1E+10", "-1E+1", "-10", "-10.0", "-1E-398", "-0E+3", "-0",
            "-0E-3", "0E-3", "0", "0E+3", "1E-398", "10.0", "10", "1E+1", "1E+10", "inf", "sNaN", "sNaN7", "NaN",
            "NaN7"
        };
        for (int i = 0; i < order.length; i++) {
            for (int k = 0; k < order.length; k++) {
                DecimalBits x = new DecimalBits();
                put(x, 0, 1, order[i]);
                put(x, 1, 1, order[k]);
                due("ordered " + order[i] + ", " + order[k], x.ordered(0, 1), i <= k);
                due("ordered signals nothing", x.flags(), 0);
            }
        }
        DecimalBits x = new DecimalBits();
        put(x, 1, 0, "1");
        refused("ordered of two formats", () -> x.ordered(0, 1) ? 1 : 0);
        refused("ordered of 9", () -> x.ordered(0, 9) ? 1 : 0);
        refused("ordered of -1", () -> x.ordered(-1, 0) ? 1 : 0);
        due("ordered of LAST", x.ordered(1, 8), true);
    }

    private static void promise19() {
        String[] of = {"-sNaN", "-NaN", "-inf", "-1E-95", "-9.99999E-96", "-0", "0", "9.99999E-96", "1E-95", "inf"};
        for (int k = 0; k < of.length; k++) {
            DecimalBits x = new DecimalBits();
            put(x, 0, 0, of[k]);
            due("kind of " + of[k], x.kind(0), k);
            due("kind of LAST", x.kind(8), k);
        }
        DecimalBits x = new DecimalBits();
        put(x, 0, 2, "1E-6143");
        put(x, 1, 2, "1E-6144");
        put(x, 2, 0, "sNaN");
        due("kind of 128 bits", x.kind(0), 8);
        due("kind of 128 bits", x.kind(1), 7);
        due("kind of a sNaN", x.kind(2), 0);
        due("kind(9)", x.kind(9), -1);
        due("kind(-1)", x.kind(-1), -1);
    }

    private static void bothAlike(String a, String b, boolean want) {
        DecimalBits x = new DecimalBits();
        put(x, 0, 1, a);
        put(x, 1, 1, b);
        due("alike " + a + ", " + b, x.alike(0, 1), want);
        due("alike " + b + ", " + a, x.alike(1, 0), want);
        due("alike signals nothing", x.flags(), 0);
    }

    private static void promise20() {
        bothAlike("1.0", "-55.5", true);
        bothAlike("1.0", "1.00", false);
        bothAlike("0", "7", true);
        bothAlike("NaN1", "-sNaN2", true);
        bothAlike("inf", "-inf", true);
        bothAlike("inf", "NaN", false);
        bothAlike("inf", "0", false);
        bothAlike("NaN", "0", false);
        DecimalBits x = new DecimalBits();
        put(x, 1, 0, "0");
        due("alike of two formats", x.alike(0, 1), false);
        due("alike of 9", x.alike(9, 9), false);
        due("alike of -1", x.alike(0, -1), false);
        due("alike of LAST", x.alike(1, 8), true);
    }

    private static void promises21and22() {
        DecimalBits x = new DecimalBits();
        due("type(-1)", x.type(-1), false);
        due("type(128)", x.type(128), false);
        due("type(127)", x.type(127), true);
        refused("a text of 127 alone", () -> x.read(0, 1));
        for (int k = 0; k < 120; k++) {
            due("type of character " + k, x.type('0' + k % 10), true);
        }
        due("type of character 120", x.type('0'), false);
        due("read of 120 characters", x.read(0, 2), INEXACT);
        due("read of 120 characters", text(x, 0), "1.234567890123456789012345678901235E+118");
        due("type behind that", x.type('0'), true);
        read(1, 0, "12", "12 0");
        read(1, 0, "+12.", "12 0");
        read(1, 0, "-.50", "-0.50 0");
        read(1, 0, "00012.0", "12.0 0");
        read(1, 0, "1e5", "1E+5 0");
        read(1, 0, "1.50E+3", "1.50E+3 0");
        read(1, 0, "1.50E-3", "0.00150 0");
        read(1, 0, "-0.00", "-0.00 0");
        read(1, 0, "1E00005", "1E+5 0");
        read(0, 0, "12345675", "1.234568E+7 16");
        read(0, 2, "-12345675", "-1.234567E+7 16");
        read(0, 0, "1E100000000000", "Infinity 20");
        read(0, 0, "1E-100000000000", "0E-101 24");
        read(0, 0, "0E99999999999999999999", "0E+90 0");
        read(0, 0, "-0E-99999999999999999999", "-0E-101 0");
        read(1, 0, "inf", "Infinity 0");
        read(1, 0, "-Infinity", "-Infinity 0");
        read(1, 0, "+INFINITY", "Infinity 0");
        read(1, 0, "nan", "NaN 0");
        read(1, 0, "-NAN0012", "-NaN12 0");
        read(1, 0, "snan", "sNaN 0");
        read(0, 0, "sNaN000999999", "sNaN999999 0");
        read(0, 0, "sNaN1000000", "sNaN 0");
        read(2, 0, "NaN999999999999999999999999999999999", "NaN999999999999999999999999999999999 0");
        read(2, 0, "NaN1000000000000000000000000000000000", "NaN 0");
    }

    private static void promise22Refusals() {
        String[] wrongOnes = {
            "", "+", "-", ".", "+.", "E5", ".E5", "1E", "1E+", "1E-", "1E5.0", "1..0", "1.0.0", "--1", "+-1", " 1",
            "1 ", "1x", "0x1", "1E 5", "1E++5", "1EE5", "I", "IN", "INFI", "INFINIT", "INFINITYX", "INF1", "NA",
            "NAN.", "NAN1.0", "NAN-1", "NANE5", "SNA", "SNANX", "SINF", "S", "QNAN", "1,0", "1\u00007"
        };
        for (String text : wrongOnes) {
            DecimalBits x = new DecimalBits();
            type(x, text);
            x.trap(31);
            refused("read of " + text, () -> x.read(0, 1));
            due("nothing is done", text(x, 0) + text(x, 8) + x.flags(), "000");
            due("the text is empty", put(x, 0, 1, "7"), 0);
            due("the text is empty", text(x, 0), "7");
        }
        int[][] targets = {{8, 1}, {-1, 1}, {0, 3}, {0, -1}};
        for (int[] target : targets) {
            DecimalBits x = new DecimalBits();
            type(x, "5");
            refused("read to " + target[0] + ", " + target[1], () -> x.read(target[0], target[1]));
            due("nothing is done", text(x, 0) + text(x, 8) + x.flags(), "000");
            due("the text is empty", put(x, 0, 1, "7"), 0);
            due("the text is empty", text(x, 0), "7");
        }
    }

    private static void written(String read, String want) {
        DecimalBits x = new DecimalBits();
        put(x, 0, 2, read);
        due("write of " + read, text(x, 0), want);
    }

    private static void promises23and24() {
        String[] same = {
            "0", "-0", "1", "123", "0.5", "-12.345", "0.000001", "0.0000010", "0.000000", "1E-7", "1.0E-7", "0E-7",
            "0E+1", "1E+1", "1.2E+2", "-1.23E+99", "Infinity", "-Infinity", "NaN", "-NaN", "sNaN12", "-sNaN",
            "0.00001234567890123456789012345678901234", "1234567890123456789012345678901234",
            "-9.999999999999999999999999999999999E+6144", "1E-6176", "1.234E-1000", "-0.000000",
            "0.1234567890123456789012345678901234", "1.234567890123456789012345678901234", "0E-6176", "0E+6111"
        };
        for (String text : same) {
            written(text, text);
        }
        written("0.0000001", "1E-7");
        written("00.00000100", "0.00000100");
        written("12E+5", "1.2E+6");
        written("nan000", "NaN");
        DecimalBits x = new DecimalBits();
        due("output of nothing", x.output(0), -1);
        put(x, 0, 1, "-5");
        due("no output before write", x.output(0), -1);
        due("write", x.write(0), 2);
        put(x, 1, 1, "777");
        due("output(-1)", x.output(-1), -1);
        due("output(0)", x.output(0), (int) '-');
        due("output(1)", x.output(1), (int) '5');
        due("output(2)", x.output(2), -1);
        due("output(1000)", x.output(1000), -1);
        refused("write of 9", () -> x.write(9));
        refused("write of -1", () -> x.write(-1));
        due("a refused write leaves the output", x.output(1), (int) '5');
        due("write of LAST", x.write(8), 3);
        due("output of LAST", x.output(2), (int) '7');
    }
}

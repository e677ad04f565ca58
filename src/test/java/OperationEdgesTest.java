/** NaNs, INFINITIES, zeros and the other edges of each operation, as the document's Terms tell them. */
public final class OperationEdgesTest extends Checks {
    private static final String[] SIGNS = {"", "-"};

    public static void main(String[] args) {
        for (int f = 0; f < 3; f++) {
            nansOfTwo(f);
            nansOfThree(f);
            nansOfOne(f);
            zerosOfSums(f);
            infinitiesOfSums(f);
            products(f);
            quotients(f);
            remainders(f);
            remaindersOfZerosAndInfinities(f);
            quantizedInDirections(f);
            quantizedDigits(f);
            quantizedInfinities(f);
            choices(f);
            choicesBesideNaNs(f);
            copiedSigns(f);
            fusedZeros(f);
            fusedInfinities(f);
            rootsOfOthers(f);
            wholes(f);
            wholesAtEveryPlace(f);
            wholesThatStay(f);
            nextUp(f);
            nextDown(f);
            signsAndCanonical(f);
            scalesOfOthers(f);
        }
        conversionsOfOthers();
        end();
    }

    private static void twoAnywhere(int what, int f, String a, String b, String want) {
        twoInAll(what, f, a, b, want, want, want, want, want);
    }

    private static String most(int f) {
        return nines(P[f] - 1);
    }

    // NaNs.

    /** The first signalling one, else the first one, QUIET with its payload and sign; INVALID if one is signalling. */
    private static void nansOfTwo(int f) {
        for (int what = 0; what <= 9; what++) {
            twoAnywhere(what, f, "NaN1", "NaN2", "NaN1 0");
            twoAnywhere(what, f, "-NaN" + most(f), "NaN2", "-NaN" + most(f) + " 0");
            twoAnywhere(what, f, "NaN", "-NaN2", "NaN 0");
            twoAnywhere(what, f, "sNaN1", "sNaN2", "NaN1 1");
            twoAnywhere(what, f, "-sNaN1", "NaN2", "-NaN1 1");
            twoAnywhere(what, f, "NaN1", "-sNaN" + most(f), "-NaN" + most(f) + " 1");
            for (String other : new String[] {"1E0", "-0E0", "Infinity", "-Infinity"}) {
                twoAnywhere(what, f, "-sNaN3", other, "-NaN3 1");
                twoAnywhere(what, f, other, "sNaN3", "NaN3 1");
                if (what < 6) {
                    twoAnywhere(what, f, "-NaN3", other, "-NaN3 0");
                    twoAnywhere(what, f, other, "NaN3", "NaN3 0");
                }
            }
        }
        // SUBTRACT: b with the other sign, but for a NaN.
        twoAnywhere(1, f, "1E0", "-NaN4", "-NaN4 0");
        twoAnywhere(1, f, "1E0", "sNaN4", "NaN4 1");
    }

    private static void fusedAnywhere(int f, String a, String b, String c, String want) {
        for (int m = 0; m < 5; m++) {
            fused(f, m, a, b, c, want);
        }
    }

    private static void nansOfThree(int f) {
        fusedAnywhere(f, "NaN1", "NaN2", "NaN3", "NaN1 0");
        fusedAnywhere(f, "1E0", "-NaN2", "NaN3", "-NaN2 0");
        fusedAnywhere(f, "1E0", "2E0", "NaN3", "NaN3 0");
        fusedAnywhere(f, "NaN1", "NaN2", "-sNaN3", "-NaN3 1");
        fusedAnywhere(f, "NaN1", "sNaN2", "sNaN3", "NaN2 1");
        fusedAnywhere(f, "sNaN1", "sNaN2", "sNaN3", "NaN1 1");
        fusedAnywhere(f, "NaN1", "sNaN2", "Infinity", "NaN2 1");
        fusedAnywhere(f, "Infinity", "2E0", "NaN" + most(f), "NaN" + most(f) + " 0");
        fusedAnywhere(f, "NaN1", "0E0", "Infinity", "NaN1 0");
        fusedAnywhere(f, "Infinity", "NaN1", "-Infinity", "NaN1 0");
        // 0 by INFINITY INVALID, also if c is a QUIET NaN, which is the result then.
        fusedAnywhere(f, "0E0", "Infinity", "-NaN3", "-NaN3 1");
        fusedAnywhere(f, "-Infinity", "0E5", "NaN", "NaN 1");
        fusedAnywhere(f, "Infinity", "-0E0", "sNaN3", "NaN3 1");
        fusedAnywhere(f, "Infinity", "0E0", "-7E0", "NaN 1");
        fusedAnywhere(f, "-0E0", "-Infinity", "-Infinity", "NaN 1");
    }

    private static void nansOfOne(int f) {
        for (int what = 0; what <= 11; what++) {
            if (what == 9 || what == 10) {
                continue;
            }
            for (int m = 0; m < 5; m++) {
                one(what, f, m, "NaN" + most(f), "NaN" + most(f) + " 0");
                one(what, f, m, "-NaN", "-NaN 0");
                one(what, f, m, "sNaN5", "NaN5 1");
                one(what, f, m, "-sNaN" + most(f), "-NaN" + most(f) + " 1");
            }
        }
        scaled(f, 0, "-NaN5", 7, "-NaN5 0");
        scaled(f, 0, "sNaN" + most(f), -7, "NaN" + most(f) + " 1");
    }

    // ADD and SUBTRACT.

    /** An exact 0 is - if both are - (then), or of different signs in direction 3. */
    private static void zerosOfSums(int f) {
        for (int m = 0; m < 5; m++) {
            String mixed = m == 3 ? "-" : "";
            two(0, f, m, "0E0", "0E3", "0E0 0");
            two(0, f, m, "-0E2", "-0E-3", "-0E-3 0");
            two(0, f, m, "0E0", "-0E0", mixed + "0E0 0");
            two(0, f, m, "-0E1", "0E2", mixed + "0E1 0");
            two(0, f, m, "5E0", "-5E0", mixed + "0E0 0");
            two(0, f, m, "-50E-1", "5E0", mixed + "0E-1 0");
            two(0, f, m, greatest(f), "-" + greatest(f), mixed + "0E" + GREATEST[f] + " 0");
            two(0, f, m, "-" + least(f), least(f), mixed + "0E" + -BIAS[f] + " 0");
            two(0, f, m, "0E" + GREATEST[f], "-0E" + -BIAS[f], mixed + "0E" + -BIAS[f] + " 0");
            two(1, f, m, "0E0", "0E0", mixed + "0E0 0");
            two(1, f, m, "-0E0", "-0E4", mixed + "0E0 0");
            two(1, f, m, "0E0", "-0E0", "0E0 0");
            two(1, f, m, "-0E0", "0E-7", "-0E-7 0");
            two(1, f, m, "5E0", "50E-1", mixed + "0E-1 0");
            two(1, f, m, "-5E0", "-5E0", mixed + "0E0 0");
            two(0, f, m, "-5E0", "-0E0", "-5E0 0");
            two(0, f, m, "0E0", "-5E0", "-5E0 0");
            two(1, f, m, "0E0", "5E0", "-5E0 0");
            two(1, f, m, "-0E0", "-5E0", "5E0 0");
        }
    }

    /** INFINITIES of different signs INVALID, else one is the result. */
    private static void infinitiesOfSums(int f) {
        twoAnywhere(0, f, "Infinity", "-Infinity", "NaN 1");
        twoAnywhere(0, f, "-Infinity", "Infinity", "NaN 1");
        twoAnywhere(0, f, "Infinity", "Infinity", "Infinity 0");
        twoAnywhere(0, f, "-Infinity", "-Infinity", "-Infinity 0");
        twoAnywhere(1, f, "Infinity", "Infinity", "NaN 1");
        twoAnywhere(1, f, "-Infinity", "-Infinity", "NaN 1");
        twoAnywhere(1, f, "Infinity", "-Infinity", "Infinity 0");
        twoAnywhere(1, f, "-Infinity", "Infinity", "-Infinity 0");
        for (String other : new String[] {"-0E0", "-" + greatest(f), least(f)}) {
            twoAnywhere(0, f, "Infinity", other, "Infinity 0");
            twoAnywhere(0, f, other, "-Infinity", "-Infinity 0");
            twoAnywhere(1, f, "-Infinity", other, "-Infinity 0");
            twoAnywhere(1, f, other, "-Infinity", "Infinity 0");
            twoAnywhere(1, f, other, "Infinity", "-Infinity 0");
        }
    }

    // MULTIPLY and DIVIDE.

    private static String sign(String one, String other) {
        return one.equals(other) ? "" : "-";
    }

    private static void products(int f) {
        for (String a : SIGNS) {
            for (String b : SIGNS) {
                String s = sign(a, b);
                twoAnywhere(2, f, a + "0E0", b + "Infinity", "NaN 1");
                twoAnywhere(2, f, a + "Infinity", b + "0E-5", "NaN 1");
                twoAnywhere(2, f, a + "Infinity", b + "Infinity", s + "Infinity 0");
                twoAnywhere(2, f, a + "Infinity", b + least(f), s + "Infinity 0");
                twoAnywhere(2, f, a + greatest(f), b + "Infinity", s + "Infinity 0");
                twoAnywhere(2, f, a + "0E1", b + "0E2", s + "0E3 0");
                twoAnywhere(2, f, a + "0E-1", b + greatest(f), s + "0E" + (GREATEST[f] - 1) + " 0");
                twoAnywhere(2, f, a + "3E0", b + "4E0", s + "12E0 0");
            }
        }
    }

    private static void quotients(int f) {
        for (String a : SIGNS) {
            for (String b : SIGNS) {
                String s = sign(a, b);
                twoAnywhere(3, f, a + "0E0", b + "0E5", "NaN 1");
                twoAnywhere(3, f, a + "Infinity", b + "Infinity", "NaN 1");
                twoAnywhere(3, f, a + "Infinity", b + "0E0", s + "Infinity 0");
                twoAnywhere(3, f, a + "Infinity", b + "7E0", s + "Infinity 0");
                twoAnywhere(3, f, a + "7E0", b + "0E0", s + "Infinity 2");
                twoAnywhere(3, f, a + least(f), b + "0E" + GREATEST[f], s + "Infinity 2");
                twoAnywhere(3, f, a + "7E0", b + "Infinity", s + "0E" + -BIAS[f] + " 0");
                twoAnywhere(3, f, a + "0E5", b + "Infinity", s + "0E" + -BIAS[f] + " 0");
                twoAnywhere(3, f, a + "0E5", b + "7E2", s + "0E3 0");
            }
        }
    }

    // REMAINDER.

    /** n the whole number nearest to a / b, of two the even one; exact, wish the lesser q. */
    private static void remainders(int f) {
        String[][] rows = {
            {"7E0", "3E0", "1E0"}, {"8E0", "3E0", "-1E0"}, {"5E0", "2E0", "1E0"}, {"7E0", "2E0", "-1E0"},
            {"1E0", "2E0", "1E0"}, {"3E0", "2E0", "-1E0"}, {"15E-1", "1E0", "-5E-1"}, {"25E-1", "1E0", "5E-1"},
            {"5E-1", "1E0", "5E-1"}, {"51E-2", "1E0", "-49E-2"}, {"1E1", "3E0", "1E0"}, {"100E0", "7E-1", "-1E-1"},
            {"6E0", "4E0", "-2E0"}, {"2E0", "4E0", "2E0"}, {"10E0", "4E0", "2E0"}, {"1E0", "1E1", "1E0"},
            {"9E0", "1E1", "-1E0"}, {"4E0", "100E-2", "0E-2"}, {"400E-2", "1E0", "0E-2"}, {"4E1", "1E0", "0E0"},
            {least(f), greatest(f), least(f)}, {least(f), "2E" + -BIAS[f], least(f)},
            {"3E" + -BIAS[f], "2E" + -BIAS[f], "-" + least(f)}, {greatest(f), least(f), "0E" + -BIAS[f]},
            {greatest(f), greatest(f), "0E" + GREATEST[f]},
            {"5E" + GREATEST[f], "1E" + GREATEST[f], "0E" + GREATEST[f]},
            {"1E" + GREATEST[f], "3E" + -BIAS[f], least(f)},
            {"2E" + GREATEST[f], "3E" + -BIAS[f], "-" + least(f)},
            {nines(P[f]) + "E0", ten(P[f] - 1) + "E1", "-1E0"}, {nines(P[f]) + "E0", "1E" + P[f], "-1E0"},
            {nines(P[f]) + "E0", "2E" + P[f], nines(P[f]) + "E0"},
            {nines(P[f]) + "E0", "1E" + (P[f] + 1), nines(P[f]) + "E0"},
            {"5" + "0".repeat(P[f] - 1) + "E0", "1E" + P[f], "5" + "0".repeat(P[f] - 1) + "E0"},
            {"5" + "0".repeat(P[f] - 2) + "1E0", "1E" + P[f], "-4" + nines(P[f] - 1) + "E0"},
            {"4" + nines(P[f] - 1) + "E0", "1E" + P[f], "4" + nines(P[f] - 1) + "E0"},
            {"5E" + P[f], ten(P[f] - 1) + "E2", "5" + "0".repeat(P[f] - 2) + "E2"},
        };
        for (String[] row : rows) {
            boolean minus = row[2].startsWith("-");
            String other = minus ? row[2].substring(1) : "-" + row[2];
            twoAnywhere(4, f, row[0], row[1], row[2] + " 0");
            twoAnywhere(4, f, row[0], "-" + row[1], row[2] + " 0");
            twoAnywhere(4, f, "-" + row[0], row[1], other + " 0");
            twoAnywhere(4, f, "-" + row[0], "-" + row[1], other + " 0");
        }
    }

    private static void remaindersOfZerosAndInfinities(int f) {
        for (String a : SIGNS) {
            for (String b : SIGNS) {
                twoAnywhere(4, f, a + "0E3", b + "7E0", a + "0E0 0");
                twoAnywhere(4, f, a + "0E-3", b + "7E0", a + "0E-3 0");
                twoAnywhere(4, f, a + "0E0", b + least(f), a + "0E" + -BIAS[f] + " 0");
                twoAnywhere(4, f, a + "Infinity", b + "7E0", "NaN 1");
                twoAnywhere(4, f, a + "Infinity", b + "Infinity", "NaN 1");
                twoAnywhere(4, f, a + "Infinity", b + "0E0", "NaN 1");
                twoAnywhere(4, f, a + "7E0", b + "0E0", "NaN 1");
                twoAnywhere(4, f, a + "0E0", b + "0E0", "NaN 1");
                twoAnywhere(4, f, a + "70E3", b + "Infinity", a + "70E3 0");
                twoAnywhere(4, f, a + "0E5", b + "Infinity", a + "0E5 0");
                twoAnywhere(4, f, a + greatest(f), b + "Infinity", a + greatest(f) + " 0");
                twoAnywhere(4, f, a + least(f), b + "Infinity", a + least(f) + " 0");
            }
        }
    }

    // QUANTIZE.

    private static void quantized(int f, String a, String b, String... wants) {
        for (int m = 0; m < 5; m++) {
            int n = m == 2 ? 3 : m == 3 ? 2 : m;
            two(5, f, m, a, b, wants[m]);
            two(5, f, m, a, "-" + b, wants[m]);
            two(5, f, m, "-" + a, b, "-" + wants[n]);
        }
    }

    /** Rounded in the present direction to b's q (also if it isn't exact: INEXACT alone). */
    private static void quantizedInDirections(int f) {
        String top = "E" + GREATEST[f];
        String end = "E" + (1 - BIAS[f]);
        quantized(f, "25E-1", "1E0", "2E0 16", "2E0 16", "3E0 16", "2E0 16", "3E0 16");
        quantized(f, "35E-1", "0E0", "4E0 16", "3E0 16", "4E0 16", "3E0 16", "4E0 16");
        quantized(f, "24E-1", "999E0", "2E0 16", "2E0 16", "3E0 16", "2E0 16", "2E0 16");
        quantized(f, "251E-2", "1E0", "3E0 16", "2E0 16", "3E0 16", "2E0 16", "3E0 16");
        quantized(f, "5E0", "1E1", "0E1 16", "0E1 16", "1E1 16", "0E1 16", "1E1 16");
        quantized(f, "4E0", "1E1", "0E1 16", "0E1 16", "1E1 16", "0E1 16", "0E1 16");
        quantized(f, "5E0", "1E2", "0E2 16", "0E2 16", "1E2 16", "0E2 16", "0E2 16");
        quantized(f, least(f), "1" + top, "0" + top + " 16", "0" + top + " 16", "1" + top + " 16",
            "0" + top + " 16", "0" + top + " 16");
        quantized(f, "15E" + -BIAS[f], "1" + end, "2" + end + " 16", "1" + end + " 16", "2" + end + " 16",
            "1" + end + " 16", "2" + end + " 16");
        quantized(f, nines(P[f]) + "E-1", "1E0", ten(P[f] - 1) + "E0 16", nines(P[f] - 1) + "E0 16",
            ten(P[f] - 1) + "E0 16", nines(P[f] - 1) + "E0 16", ten(P[f] - 1) + "E0 16");
        quantized(f, nines(P[f]) + "E0", "1E" + P[f], "1E" + P[f] + " 16", "0E" + P[f] + " 16",
            "1E" + P[f] + " 16", "0E" + P[f] + " 16", "1E" + P[f] + " 16");
    }

    private static void quantizedAnywhere(int f, String a, String b, String want) {
        for (String sign : SIGNS) {
            String signed = want.startsWith("NaN") ? want : sign + want;
            twoAnywhere(5, f, sign + a, b, signed);
            twoAnywhere(5, f, sign + a, "-" + b, signed);
        }
    }

    /** INVALID if c would have more than P digits; a zero has room with every q. */
    private static void quantizedDigits(int f) {
        quantizedAnywhere(f, nines(P[f]) + "E0", "1E0", nines(P[f]) + "E0 0");
        quantizedAnywhere(f, nines(P[f]) + "E0", "1E-1", "NaN 1");
        quantizedAnywhere(f, nines(P[f] - 1) + "E0", "1E-1", nines(P[f] - 1) + "0E-1 0");
        quantizedAnywhere(f, ten(P[f] - 1) + "E0", "1E-1", "NaN 1");
        quantizedAnywhere(f, "1E0", "1E" + (1 - P[f]), ten(P[f] - 1) + "E" + (1 - P[f]) + " 0");
        quantizedAnywhere(f, "1E0", "1E" + -P[f], "NaN 1");
        quantizedAnywhere(f, greatest(f), least(f), "NaN 1");
        quantizedAnywhere(f, "1E" + GREATEST[f], least(f), "NaN 1");
        quantizedAnywhere(f, least(f), least(f), least(f) + " 0");
        quantizedAnywhere(f, "120E0", "1E1", "12E1 0");
        quantizedAnywhere(f, "12E1", "1E0", "120E0 0");
        quantizedAnywhere(f, "0E0", least(f), "0E" + -BIAS[f] + " 0");
        quantizedAnywhere(f, "0E" + -BIAS[f], greatest(f), "0E" + GREATEST[f] + " 0");
        quantizedAnywhere(f, "0E" + GREATEST[f], "0E" + -BIAS[f], "0E" + -BIAS[f] + " 0");
    }

    private static void quantizedInfinities(int f) {
        for (String a : SIGNS) {
            for (String b : SIGNS) {
                twoAnywhere(5, f, a + "Infinity", b + "Infinity", a + "Infinity 0");
                twoAnywhere(5, f, a + "Infinity", b + "1E0", "NaN 1");
                twoAnywhere(5, f, a + "1E0", b + "Infinity", "NaN 1");
                twoAnywhere(5, f, a + "0E0", b + "Infinity", "NaN 1");
            }
        }
    }

    // MIN, MAX and COPY SIGN.

    /** What MIN, MAX, and both by sizes, choose; 1: a, 2: b. */
    private static void chosen(int f, String a, String b, int... choices) {
        for (int k = 0; k < 4; k++) {
            twoAnywhere(6 + k, f, a, b, (choices[k] == 1 ? a : b) + " 0");
        }
    }

    /** If they are equal a; equal sizes: as MIN, MAX; the result has the operand's own q. */
    private static void choices(int f) {
        chosen(f, "2E0", "3E0", 1, 2, 1, 2);
        chosen(f, "3E0", "2E0", 2, 1, 2, 1);
        chosen(f, "-2E0", "3E0", 1, 2, 1, 2);
        chosen(f, "2E0", "-3E0", 2, 1, 1, 2);
        chosen(f, "-3E0", "2E0", 1, 2, 2, 1);
        chosen(f, "-3E0", "-2E0", 1, 2, 2, 1);
        chosen(f, "3E0", "-3E0", 2, 1, 2, 1);
        chosen(f, "-3E0", "3E0", 1, 2, 1, 2);
        chosen(f, "30E-1", "-3E0", 2, 1, 2, 1);
        chosen(f, "1E1", "10E0", 1, 1, 1, 1);
        chosen(f, "10E0", "1E1", 1, 1, 1, 1);
        chosen(f, "-100E-1", "-1E1", 1, 1, 1, 1);
        chosen(f, "0E0", "-0E0", 1, 1, 1, 1);
        chosen(f, "-0E0", "0E0", 1, 1, 1, 1);
        chosen(f, "0E5", "0E-5", 1, 1, 1, 1);
        chosen(f, "0E" + GREATEST[f], least(f), 1, 2, 1, 2);
        chosen(f, "0E" + GREATEST[f], "-" + least(f), 2, 1, 1, 2);
        chosen(f, greatest(f), "Infinity", 1, 2, 1, 2);
        chosen(f, greatest(f), "-Infinity", 2, 1, 1, 2);
        chosen(f, "-Infinity", "-" + greatest(f), 1, 2, 2, 1);
        chosen(f, "Infinity", "-Infinity", 2, 1, 2, 1);
        chosen(f, "-Infinity", "Infinity", 1, 2, 1, 2);
        chosen(f, "Infinity", "Infinity", 1, 1, 1, 1);
        chosen(f, "1E" + GREATEST[f], least(f), 2, 1, 2, 1);
        chosen(f, nines(P[f]) + "E0", "1E" + P[f], 1, 2, 1, 2);
    }

    /** If one is a QUIET NaN and the other no NaN: the other one. */
    private static void choicesBesideNaNs(int f) {
        for (String other : new String[] {"10E0", "-0E5", "Infinity", "-Infinity", greatest(f)}) {
            chosen(f, "NaN5", other, 2, 2, 2, 2);
            chosen(f, other, "-NaN5", 1, 1, 1, 1);
        }
        chosen(f, "NaN5", "-NaN6", 1, 1, 1, 1);
        chosen(f, "-NaN", "NaN6", 1, 1, 1, 1);
    }

    /** a with b's sign, also that of a NaN; signals nothing, NaNs or not, SIGNALLING ones stay. */
    private static void copiedSigns(int f) {
        String[] data = {"12E-3", "0E5", "Infinity", "NaN7", "sNaN7", "sNaN", "NaN" + most(f), greatest(f), least(f)};
        for (String a : data) {
            for (String b : data) {
                twoAnywhere(10, f, a, b, a + " 0");
                twoAnywhere(10, f, a, "-" + b, "-" + a + " 0");
                twoAnywhere(10, f, "-" + a, b, a + " 0");
                twoAnywhere(10, f, "-" + a, "-" + b, "-" + a + " 0");
            }
        }
    }

    // FUSED.

    /** An exact 0 is as with ADD of a b and c; wish the lesser one of a's q and b's together and c's. */
    private static void fusedZeros(int f) {
        for (int m = 0; m < 5; m++) {
            String mixed = m == 3 ? "-" : "";
            fused(f, m, "2E0", "3E0", "-6E0", mixed + "0E0 0");
            fused(f, m, "-2E0", "3E1", "60E0", mixed + "0E0 0");
            fused(f, m, "2E1", "3E2", "-6E3", mixed + "0E3 0");
            fused(f, m, "0E1", "3E1", "0E3", "0E2 0");
            fused(f, m, "0E0", "-3E0", "0E0", mixed + "0E0 0");
            fused(f, m, "-0E0", "3E0", "-0E-1", "-0E-1 0");
            fused(f, m, "-0E0", "-0E0", "-0E0", mixed + "0E0 0");
            fused(f, m, "-0E0", "-0E0", "0E0", "0E0 0");
            fused(f, m, "0E" + GREATEST[f], "0E1", "0E" + GREATEST[f], "0E" + GREATEST[f] + " 0");
            fused(f, m, "0E" + -BIAS[f], "-7E-1", "-0E0", "-0E" + -BIAS[f] + " 0");
            fused(f, m, "0E-2", "7E0", "5E0", "500E-2 0");
            fused(f, m, "2E0", "3E0", "0E-2", "600E-2 0");
            fused(f, m, "2E0", "3E0", "-0E2", "6E0 0");
            fused(f, m, "20E0", "3E1", "1E0", "601E0 0");
        }
    }

    /** 0 by INFINITY INVALID; a b INFINITY and c the other one: INVALID. */
    private static void fusedInfinities(int f) {
        for (String a : SIGNS) {
            for (String b : SIGNS) {
                String s = sign(a, b);
                String other = s.isEmpty() ? "-" : "";
                fusedAnywhere(f, a + "Infinity", b + "2E0", s + "Infinity", s + "Infinity 0");
                fusedAnywhere(f, a + "Infinity", b + "2E0", other + "Infinity", "NaN 1");
                fusedAnywhere(f, a + "2E0", b + "Infinity", other + "Infinity", "NaN 1");
                fusedAnywhere(f, a + "Infinity", b + "Infinity", other + "Infinity", "NaN 1");
                fusedAnywhere(f, a + "Infinity", b + "Infinity", s + "Infinity", s + "Infinity 0");
                fusedAnywhere(f, a + "Infinity", b + least(f), other + greatest(f), s + "Infinity 0");
                fusedAnywhere(f, a + greatest(f), b + "Infinity", "0E0", s + "Infinity 0");
                fusedAnywhere(f, a + greatest(f), b + greatest(f), other + "Infinity", other + "Infinity 0");
                fusedAnywhere(f, a + "0E0", b + "Infinity", s + "Infinity", "NaN 1");
                fusedAnywhere(f, a + "Infinity", b + "0E0", "1E0", "NaN 1");
                fusedAnywhere(f, a + "0E0", b + "2E0", "-Infinity", "-Infinity 0");
            }
        }
    }

    // ONE operand.

    private static void oneAnywhere(int what, int f, String a, String want) {
        for (int m = 0; m < 5; m++) {
            one(what, f, m, a, want);
        }
    }

    /** A zero is a zero with its sign; below 0: INVALID; INFINITY stays. */
    private static void rootsOfOthers(int f) {
        oneAnywhere(0, f, "0E4", "0E2 0");
        oneAnywhere(0, f, "-0E5", "-0E2 0");
        oneAnywhere(0, f, "-0E-5", "-0E-3 0");
        oneAnywhere(0, f, "-4E0", "NaN 1");
        oneAnywhere(0, f, "-" + least(f), "NaN 1");
        oneAnywhere(0, f, "-" + greatest(f), "NaN 1");
        oneAnywhere(0, f, "-Infinity", "NaN 1");
        oneAnywhere(0, f, "Infinity", "Infinity 0");
    }

    /** What WHOLE answers in directions 0 .. 4, by its five operations and by the present one. */
    private static void whole(int f, String a, String... wants) {
        for (int m = 0; m < 5; m++) {
            String negative = "-" + wants[m == 2 ? 3 : m == 3 ? 2 : m];
            oneAnywhere(1 + m, f, a, wants[m] + " 0");
            oneAnywhere(1 + m, f, "-" + a, negative + " 0");
            one(6, f, m, a, wants[m] + " 16");
            one(6, f, m, "-" + a, negative + " 16");
        }
    }

    /** A finite one is rounded to the q 0 if its own is below 0; 6 signals INEXACT if that changes the value. */
    private static void wholes(int f) {
        whole(f, "25E-1", "2E0", "2E0", "3E0", "2E0", "3E0");
        whole(f, "35E-1", "4E0", "3E0", "4E0", "3E0", "4E0");
        whole(f, "249E-2", "2E0", "2E0", "3E0", "2E0", "2E0");
        whole(f, "251E-2", "3E0", "2E0", "3E0", "2E0", "3E0");
        whole(f, "5E-1", "0E0", "0E0", "1E0", "0E0", "1E0");
        whole(f, "50001E-5", "1E0", "0E0", "1E0", "0E0", "1E0");
        whole(f, "15E-1", "2E0", "1E0", "2E0", "1E0", "2E0");
        whole(f, "4E-1", "0E0", "0E0", "1E0", "0E0", "0E0");
        whole(f, "5E-2", "0E0", "0E0", "1E0", "0E0", "0E0");
        whole(f, least(f), "0E0", "0E0", "1E0", "0E0", "0E0");
        whole(f, nines(P[f]) + "E" + -BIAS[f], "0E0", "0E0", "1E0", "0E0", "0E0");
        whole(f, nines(P[f]) + "E" + -P[f], "1E0", "0E0", "1E0", "0E0", "1E0");
        String power = ten(P[f] - 1) + "E0";
        String below = nines(P[f] - 1) + "E0";
        whole(f, nines(P[f]) + "E-1", power, below, power, below, power);
        whole(f, nines(P[f] - 1) + "5E-1", power, below, power, below, power);
        whole(f, nines(P[f] - 1) + "4E-1", below, below, power, below, below);
    }

    /** However small it is: 6 and so many places behind the point. */
    private static void wholesAtEveryPlace(int f) {
        for (int q = -1; q >= -BIAS[f]; q -= q < -420 ? 97 : 1) {
            String nearest = q == -1 ? "1E0" : "0E0";
            one(1, f, 1, "6E" + q, nearest + " 0");
            one(3, f, 1, "6E" + q, "1E0 0");
            one(6, f, 0, "-6E" + q, "-" + nearest + " 16");
            one(6, f, 3, "-0E" + q, "-0E0 0");
            two(5, f, 3, "0E" + q, "1E0", "0E0 0");
            two(5, f, 4, "6E" + q, "1E0", nearest + " 16");
            two(5, f, 2, "6E" + q, "1E0", "1E0 16");
            two(5, f, 1, nines(P[f]) + "E" + q, "0E" + GREATEST[f], "0E" + GREATEST[f] + " 16");
        }
    }

    private static void wholesThatStay(int f) {
        String[][] rows = {
            {"Infinity", "Infinity"}, {"7E0", "7E0"}, {"7E3", "7E3"}, {greatest(f), greatest(f)}, {"0E0", "0E0"},
            {"0E3", "0E3"}, {"0E-3", "0E0"}, {"0E" + -BIAS[f], "0E0"}, {"700E-2", "7E0"}, {"70E-1", "7E0"},
            {"0E" + GREATEST[f], "0E" + GREATEST[f]}, {nines(P[f]) + "E0", nines(P[f]) + "E0"},
            {ten(P[f] - 1) + "E" + (1 - P[f]), "1E0"}
        };
        for (String[] row : rows) {
            for (int what = 1; what <= 6; what++) {
                oneAnywhere(what, f, row[0], row[1] + " 0");
                oneAnywhere(what, f, "-" + row[0], "-" + row[1] + " 0");
            }
        }
    }

    /** Datums and their NEXT UP, in one format. */
    private static String[][] steps(int f) {
        int low = -BIAS[f];
        String top = "E" + GREATEST[f];
        String below = nines(P[f] - 1) + "8";
        return new String[][] {
            {"Infinity", "Infinity"}, {"-Infinity", "-" + greatest(f)}, {greatest(f), "Infinity"},
            {"-" + greatest(f), "-" + below + top}, {below + top, greatest(f)},
            {"0E0", least(f)}, {"-0E0", least(f)}, {"0E" + GREATEST[f], least(f)}, {"-0E" + low, least(f)},
            {"-" + least(f), "-0E" + low}, {least(f), "2E" + low}, {"-2E" + low, "-" + least(f)},
            {"1E0", ten(P[f] - 1).replaceFirst("0$", "1") + "E" + (1 - P[f])},
            {"-1E0", "-" + nines(P[f]) + "E" + -P[f]},
            {"-" + ten(P[f] - 1) + "E" + (1 - P[f]), "-" + nines(P[f]) + "E" + -P[f]},
            {nines(P[f]) + "E0", ten(P[f] - 1) + "E1"}, {"-" + ten(P[f] - 1) + "E1", "-" + nines(P[f]) + "E0"},
            {nines(P[f]) + "E" + low, ten(P[f] - 1) + "E" + (low + 1)},
            {"-" + ten(P[f] - 1) + "E" + (low + 1), "-" + nines(P[f]) + "E" + low},
            {"-1E" + (low + P[f]), "-" + nines(P[f]) + "E" + low},
            {nines(P[f] - 1) + "E" + low, ten(P[f] - 1) + "E" + low},
            {"-" + ten(P[f] - 1) + "E" + low, "-" + nines(P[f] - 1) + "E" + low},
            {"-1E" + (1 - EMAX[f]), "-" + nines(P[f] - 1) + "E" + low},
            {"1E" + (low + 2), "101E" + low}, {"-1E" + (low + 2), "-99E" + low},
            {"7E" + GREATEST[f], "7" + ten(P[f] - 1).substring(1).replaceFirst("0$", "1") + "E"
                + (GREATEST[f] - P[f] + 1)}
        };
    }

    /** Of those of one value that with the least q; it signals INVALID alone, of a SIGNALLING NaN. */
    private static void nextUp(int f) {
        for (String[] step : steps(f)) {
            oneAnywhere(7, f, step[0], step[1] + " 0");
        }
    }

    private static String negative(String datum) {
        return datum.startsWith("-") ? datum.substring(1) : "-" + datum;
    }

    /** NEXT UP of a with the other sign, with the other sign. */
    private static void nextDown(int f) {
        for (String[] step : steps(f)) {
            oneAnywhere(8, f, negative(step[0]), negative(step[1]) + " 0");
        }
    }

    /** NEGATE, SIZE: as COPY SIGN. CANONICAL: a itself. */
    private static void signsAndCanonical(int f) {
        String[] data = {
            "12E-3", "0E5", "Infinity", "NaN7", "sNaN7", "NaN", "sNaN" + most(f), greatest(f), least(f), "100E0"
        };
        for (String a : data) {
            oneAnywhere(9, f, a, "-" + a + " 0");
            oneAnywhere(9, f, "-" + a, a + " 0");
            oneAnywhere(10, f, a, a + " 0");
            oneAnywhere(10, f, "-" + a, a + " 0");
            if (!a.startsWith("sNaN")) {
                oneAnywhere(11, f, a, a + " 0");
                oneAnywhere(11, f, "-" + a, "-" + a + " 0");
            }
        }
    }

    // SCALE and CONVERT.

    private static void scalesOfOthers(int f) {
        int[] far = {Integer.MIN_VALUE, -1, 0, 1, Integer.MAX_VALUE};
        for (int n : far) {
            scaled(f, 0, "Infinity", n, "Infinity 0");
            scaled(f, 1, "-Infinity", n, "-Infinity 0");
            scaled(f, 0, "NaN7", n, "NaN7 0");
            scaled(f, 0, "-sNaN7", n, "-NaN7 1");
        }
        scaled(f, 0, "120E0", 0, "120E0 0");
        scaled(f, 0, "120E0", 5, "120E5 0");
        scaled(f, 0, "-120E0", -5, "-120E-5 0");
    }

    /** A NaN's payload keeps its lowest P - 1 digits of f; INFINITY stays. */
    private static void conversionsOfOthers() {
        for (int f = 0; f < 3; f++) {
            for (int g = 0; g < 3; g++) {
                String kept = nines(Math.min(P[f], P[g]) - 1);
                String grown = g >= f ? "1" + "0".repeat(P[f] - 2) : "";
                for (String sign : SIGNS) {
                    converted(f, g, 0, sign + "Infinity", sign + "Infinity 0");
                    converted(f, g, 0, sign + "NaN", sign + "NaN 0");
                    converted(f, g, 0, sign + "sNaN", sign + "NaN 1");
                    converted(f, g, 0, sign + "NaN7", sign + "NaN7 0");
                    converted(f, g, 0, sign + "NaN" + most(f), sign + "NaN" + kept + " 0");
                    converted(f, g, 0, sign + "sNaN" + most(f), sign + "NaN" + kept + " 1");
                    converted(f, g, 0, sign + "NaN" + ten(P[f] - 2), sign + "NaN" + grown + " 0");
                }
            }
        }
        converted(1, 0, 0, "NaN123456789", "NaN456789 0");
        converted(1, 0, 0, "sNaN123006789", "NaN6789 1");
        converted(2, 0, 0, "-NaN123456789", "-NaN456789 0");
        converted(2, 1, 0, "NaN98765432109876543210", "NaN432109876543210 0");
        converted(2, 1, 0, "sNaN1000000000000000", "NaN 1");
        converted(2, 1, 0, "NaN999999999999999", "NaN999999999999999 0");
    }
}

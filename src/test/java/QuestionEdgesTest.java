/** WHOLE NUMBER, LOG, COMPARED and ORDER at their edges: promises 15 to 18. */
public final class QuestionEdgesTest extends Checks {
    private static final long LEAST = Long.MIN_VALUE;
    private static final long MOST = Long.MAX_VALUE;
    private static final long[] REFUSED = {LEAST, LEAST, LEAST, LEAST, LEAST};
    private static final int[] NOT_EXACT = {INEXACT, INEXACT, INEXACT, INEXACT, INEXACT};
    private static final int[] EXACT = {0, 0, 0, 0, 0};
    private static final int[] NONE_SUCH = {INVALID, INVALID, INVALID, INVALID, INVALID};

    public static void main(String[] args) {
        for (int f = 0; f < 3; f++) {
            wholeNumbersOfAnyFormat(f);
            noWholeNumbers(f);
            logs(f);
            comparisons(f);
            comparisonsOfNaNs(f);
            orderOfAll(f);
            sameHoweverMade(f);
        }
        greatestWholeNumbers();
        leastWholeNumbers();
        wholeNumbersOfFewDigits();
        presentDirection();
        end();
    }

    /** An object with the data in registers 0, 1, ... and another one in LAST and in register 7. */
    private static DecimalBits desk(int f, String... data) {
        DecimalBits x = new DecimalBits();
        set(x, 7, f, "-77E0");
        x.one(9, 7, 7);
        for (int k = 0; k < data.length; k++) {
            set(x, k, f, data[k]);
        }
        return x;
    }

    /** They signal this, and leave LAST and all else as it is. */
    private static void leaves(String what, DecimalBits x, int signals, String... data) {
        due("flags behind " + what, x.flags(), signals);
        due("LAST behind " + what, datum(x, 8), "77E0");
        due("register 7 behind " + what, datum(x, 7), "77E0");
        for (int k = 0; k < data.length; k++) {
            due("register " + k + " behind " + what, datum(x, k), plain(data[k]));
        }
    }

    /** In directions 0 .. 4; INEXACT is signalled if it is exactly asked. */
    private static void whole(int f, String a, long[] wants, int[] signals) {
        for (int m = 0; m < 5; m++) {
            for (int asked = 0; asked < 4; asked++) {
                boolean exactly = asked % 2 == 0;
                DecimalBits x = desk(f, a);
                x.direct(asked < 2 ? (m + 1) % 5 : m);
                String what = "whole number of " + a + ", format " + f + ", direction " + m + ", exactly " + exactly;
                due(what, x.whole(0, asked < 2 ? m : 5, exactly), wants[m]);
                leaves(what, x, exactly ? signals[m] : signals[m] & ~INEXACT, a);
            }
        }
    }

    private static long[] all(long... values) {
        return values.length > 1 ? values : new long[] {values[0], values[0], values[0], values[0], values[0]};
    }

    private static void wholeNumbersOfAnyFormat(int f) {
        whole(f, "25E-1", all(2, 2, 3, 2, 3), NOT_EXACT);
        whole(f, "-25E-1", all(-2, -2, -2, -3, -3), NOT_EXACT);
        whole(f, "35E-1", all(4, 3, 4, 3, 4), NOT_EXACT);
        whole(f, "-35E-1", all(-4, -3, -3, -4, -4), NOT_EXACT);
        whole(f, "4E-1", all(0, 0, 1, 0, 0), NOT_EXACT);
        whole(f, "-4E-1", all(0, 0, 0, -1, 0), NOT_EXACT);
        whole(f, "5E-1", all(0, 0, 1, 0, 1), NOT_EXACT);
        whole(f, "-6E-1", all(-1, 0, 0, -1, -1), NOT_EXACT);
        whole(f, least(f), all(0, 0, 1, 0, 0), NOT_EXACT);
        whole(f, "-" + nines(P[f]) + "E" + -BIAS[f], all(0, 0, 0, -1, 0), NOT_EXACT);
        whole(f, nines(P[f]) + "E" + -P[f], all(1, 0, 1, 0, 1), NOT_EXACT);
        whole(f, "0E0", all(0), EXACT);
        whole(f, "-0E0", all(0), EXACT);
        whole(f, "-0E" + GREATEST[f], all(0), EXACT);
        whole(f, "0E" + -BIAS[f], all(0), EXACT);
        whole(f, "700E-2", all(7), EXACT);
        whole(f, "-7E3", all(-7000), EXACT);
        whole(f, "1E18", all(1000000000000000000L), EXACT);
        whole(f, "9E18", all(9000000000000000000L), EXACT);
        whole(f, "-92E17", all(-9200000000000000000L), EXACT);
        whole(f, "4294967E3", all(4294967000L), EXACT);
    }

    /** INVALID alone of NaNs, INFINITIES and greater ones: -9223372036854775808. */
    private static void noWholeNumbers(int f) {
        String[] data = {
            "Infinity", "-Infinity", "NaN", "-NaN5", "sNaN", "-sNaN5", "1E19", "-1E19", "93E17", "-93E17", "2E19",
            "1E" + GREATEST[f], greatest(f), "-" + greatest(f), "1844675E13", "9E63"
        };
        for (String a : data) {
            whole(f, a, REFUSED, NONE_SUCH);
        }
    }

    private static void greatestWholeNumbers() {
        String stem = "922337203685477580";
        whole(2, stem + "7E0", all(MOST), EXACT);
        whole(2, stem + "70E-1", all(MOST), EXACT);
        whole(2, stem + "74E-1", all(MOST, MOST, LEAST, MOST, MOST), new int[] {16, 16, 1, 16, 16});
        whole(2, stem + "75E-1", all(LEAST, MOST, LEAST, MOST, LEAST), new int[] {1, 16, 1, 16, 1});
        whole(2, stem + "79E-1", all(LEAST, MOST, LEAST, MOST, LEAST), new int[] {1, 16, 1, 16, 1});
        whole(2, stem + "7000000000000001E-15", all(MOST, MOST, LEAST, MOST, MOST), new int[] {16, 16, 1, 16, 16});
        whole(2, stem + "65E-1", all(MOST - 1, MOST - 1, MOST, MOST - 1, MOST), NOT_EXACT);
        whole(2, stem + "8E0", REFUSED, NONE_SUCH);
        whole(2, stem + "81E-1", REFUSED, NONE_SUCH);
        whole(2, "18446744073709551615E0", REFUSED, NONE_SUCH);
        whole(2, "18446744073709551616E0", REFUSED, NONE_SUCH);
        whole(2, "18446744073709551617E0", REFUSED, NONE_SUCH);
        whole(2, "340282366920938463463374607431768E0", REFUSED, NONE_SUCH);
        whole(2, "99999999999999999999E-1", REFUSED, NONE_SUCH);
        whole(2, nines(34) + "E-15", REFUSED, NONE_SUCH);
    }

    private static void leastWholeNumbers() {
        String stem = "-922337203685477580";
        whole(2, stem + "8E0", all(LEAST), EXACT);
        whole(2, stem + "800E-2", all(LEAST), EXACT);
        whole(2, stem + "84E-1", all(LEAST), new int[] {16, 16, 16, 1, 16});
        whole(2, stem + "85E-1", all(LEAST), new int[] {16, 16, 16, 1, 1});
        whole(2, stem + "86E-1", all(LEAST), new int[] {1, 16, 16, 1, 1});
        whole(2, stem + "75E-1", all(LEAST, -MOST, -MOST, LEAST, LEAST), NOT_EXACT);
        whole(2, stem + "7E0", all(-MOST), EXACT);
        whole(2, stem + "9E0", REFUSED, NONE_SUCH);
        whole(2, stem + "90E-1", REFUSED, NONE_SUCH);
        whole(2, "-18446744073709551616E0", REFUSED, NONE_SUCH);
        whole(2, "-18446744073709551617E0", REFUSED, NONE_SUCH);
        whole(2, "-27670116110564327424E0", REFUSED, NONE_SUCH);
    }

    private static void wholeNumbersOfFewDigits() {
        whole(0, "9223372E12", all(9223372000000000000L), EXACT);
        whole(0, "-9223372E12", all(-9223372000000000000L), EXACT);
        whole(0, "9223373E12", REFUSED, NONE_SUCH);
        whole(0, "-9223373E12", REFUSED, NONE_SUCH);
        whole(1, "9223372036854775E3", all(9223372036854775000L), EXACT);
        whole(1, "-9223372036854775E3", all(-9223372036854775000L), EXACT);
        whole(1, "9223372036854776E3", REFUSED, NONE_SUCH);
        whole(1, "-9223372036854776E3", REFUSED, NONE_SUCH);
        whole(1, "4294967295E0", all(4294967295L), EXACT);
        whole(1, "-4294967296E0", all(-4294967296L), EXACT);
        whole(1, "2147483648E0", all(2147483648L), EXACT);
    }

    /** A direction that is asked for isn't the present one afterwards. */
    private static void presentDirection() {
        DecimalBits x = desk(1, "25E-1");
        due("in direction 4", x.whole(0, 4, false), 3L);
        due("in the present one", x.whole(0, 5, false), 2L);
        due("in direction 2", x.whole(0, 2, false), 3L);
        due("in the present one", x.one(6, 1, 0) + " " + datum(x, 1), "16 2E0");
        due("of LAST", x.whole(8, 0, true), 2L);
    }

    private static void log(int f, String a, int want, int signals) {
        for (String sign : new String[] {"", "-"}) {
            DecimalBits x = desk(f, sign + a);
            due("log of " + sign + a + " in format " + f, x.log(0), want);
            leaves("log of " + sign + a, x, signals, sign + a);
        }
    }

    /** How many digits c has and q, less 1, of a finite one that isn't zero; else INVALID: -2147483648. */
    private static void logs(int f) {
        log(f, "1E0", 0, 0);
        log(f, "9E0", 0, 0);
        log(f, "10E0", 1, 0);
        log(f, "1E1", 1, 0);
        log(f, "99E-1", 0, 0);
        log(f, "99E-2", -1, 0);
        log(f, nines(P[f]) + "E0", P[f] - 1, 0);
        log(f, ten(P[f] - 1) + "E0", P[f] - 1, 0);
        log(f, greatest(f), EMAX[f], 0);
        log(f, "1E" + GREATEST[f], GREATEST[f], 0);
        log(f, least(f), -BIAS[f], 0);
        log(f, ten(P[f] - 1) + "E" + -BIAS[f], 1 - EMAX[f], 0);
        log(f, nines(P[f] - 1) + "E" + -BIAS[f], -EMAX[f], 0);
        for (String a : new String[] {"0E0", "0E" + GREATEST[f], "0E" + -BIAS[f], "Infinity", "NaN", "NaN7", "sNaN"}) {
            log(f, a, -2147483648, INVALID);
        }
        DecimalBits x = desk(f);
        due("log of LAST", x.log(8), 1);
    }

    private static void compared(int f, String a, String b, int want) {
        for (boolean quiet : new boolean[] {false, true}) {
            DecimalBits x = desk(f, a, b);
            x.trap(31);
            due("compare of " + a + " and " + b + " in format " + f, x.compare(0, 1, quiet), want);
            due("compare of " + b + " and " + a + " in format " + f, x.compare(1, 0, quiet), -want);
            leaves("compare", x, 0, a, b);
        }
    }

    /** Equal ones stand together; zeros all are, whatever q. */
    private static void comparisons(int f) {
        String low = "E" + -BIAS[f];
        String[][] order = {
            {"-Infinity"}, {"-" + greatest(f)}, {"-" + nines(P[f] - 1) + "8E" + GREATEST[f]},
            {"-1E" + P[f], "-" + ten(P[f] - 1) + "E1"}, {"-" + nines(P[f]) + "E0"}, {"-11E0"},
            {"-1E1", "-10E0", "-1000E-2"}, {"-99E-1"}, {"-2" + low}, {"-1" + low},
            {"0E0", "-0E0", "0" + low, "-0" + low, "0E" + GREATEST[f], "-0E" + GREATEST[f]},
            {"1" + low}, {"2" + low}, {nines(P[f] - 1) + low}, {ten(P[f] - 1) + low, "1E" + (1 - EMAX[f])},
            {"99E-1"}, {"1E1", "10E0", ten(P[f] - 1) + "E" + (2 - P[f])}, {"11E0"}, {nines(P[f]) + "E0"},
            {"1E" + P[f], ten(P[f] - 1) + "E1"}, {"1E" + GREATEST[f]}, {greatest(f)}, {"Infinity"}
        };
        for (int i = 0; i < order.length; i++) {
            for (int k = 0; k <= i; k++) {
                for (String a : order[i]) {
                    for (String b : order[k]) {
                        compared(f, a, b, i > k ? 1 : 0);
                    }
                }
            }
        }
    }

    /** 2 if one is a NaN: INVALID if it is signalling, or if QUIET ones are asked for, too. */
    private static void comparisonsOfNaNs(int f) {
        String[] others = {"1E0", "-0E0", "Infinity", "-Infinity", "NaN2", "-NaN"};
        for (String other : others) {
            for (String nan : new String[] {"NaN", "-NaN7", "NaN" + nines(P[f] - 1)}) {
                comparedNaN(f, nan, other, true, 0);
                comparedNaN(f, nan, other, false, INVALID);
            }
            for (String nan : new String[] {"sNaN", "-sNaN7", "sNaN" + nines(P[f] - 1)}) {
                comparedNaN(f, nan, other, true, INVALID);
                comparedNaN(f, nan, other, false, INVALID);
            }
        }
        comparedNaN(f, "sNaN", "sNaN", true, INVALID);
        comparedNaN(f, "sNaN", "-sNaN", false, INVALID);
    }

    private static void comparedNaN(int f, String a, String b, boolean quiet, int signals) {
        DecimalBits x = desk(f, a, b);
        due("compare of " + a + " and " + b + ", quiet " + quiet, x.compare(0, 1, quiet), 2);
        leaves("compare of " + a + " and " + b + ", quiet " + quiet, x, signals, a, b);
        DecimalBits y = desk(f, a, b);
        due("compare of " + b + " and " + a + ", quiet " + quiet, y.compare(1, 0, quiet), 2);
        leaves("compare of " + b + " and " + a + ", quiet " + quiet, y, signals, a, b);
    }

    /** Whether a comes before b, or is the same; formats that differ are refused elsewhere. */
    private static void orderOfAll(int f) {
        String most = nines(P[f] - 1);
        String low = "E" + -BIAS[f];
        String top = "E" + GREATEST[f];
        String long10 = ten(P[f] - 1) + "E" + (2 - P[f]);
        String[] upward = {
            "0" + low, "0E-1", "0E0", "0E1", "0" + top, least(f), "2" + low, "9" + low, "10" + low,
            "1E" + (1 - BIAS[f]), nines(P[f] - 1) + low, ten(P[f] - 1) + low, "1E" + (1 - EMAX[f]), "99E-1", long10,
            "100E-1", "10E0", "1E1", "11E0", nines(P[f]) + "E0", ten(P[f] - 1) + "E1", "1E" + P[f], "1" + top,
            "10" + top, greatest(f), "Infinity", "sNaN", "sNaN1", "sNaN10", "sNaN" + most, "NaN", "NaN1", "NaN10",
            "NaN" + most
        };
        int count = upward.length;
        for (int i = -count; i < count; i++) {
            for (int k = -count; k < count; k++) {
                String a = upTo(upward, i);
                String b = upTo(upward, k);
                DecimalBits x = desk(f, a, b);
                x.trap(31);
                due("ordered of " + a + " and " + b + " in format " + f, x.ordered(0, 1), i <= k);
                due("flags behind ordered", x.flags(), 0);
            }
        }
        DecimalBits x = desk(f, upward[0]);
        x.ordered(0, 7);
        leaves("ordered", x, 0, upward[0]);
    }

    /** INFINITIES and NaNs that came about in different ways are the same. */
    private static void sameHoweverMade(int f) {
        DecimalBits x = desk(f, "Infinity", greatest(f), "5E0", "0E0", "0E3");
        x.two(2, 5, 1, 1);
        x.two(3, 6, 2, 3);
        x.scale(7, 1, 1);
        int[] infinities = {0, 5, 6, 7, 8};
        for (int a : infinities) {
            for (int b : infinities) {
                due("infinities in order", x.ordered(a, b), true);
                due("infinities compared", x.compare(a, b, false), 0);
                due("infinities alike", x.alike(a, b), true);
            }
        }
        set(x, 0, f, "NaN");
        x.two(3, 5, 3, 4);
        x.two(3, 6, 4, 3);
        put(x, 7, f, "NaN");
        for (int a : infinities) {
            for (int b : infinities) {
                due("NaNs in order", x.ordered(a, b), true);
                due("NaNs alike", x.alike(a, b), true);
            }
        }
    }

    /** The order of those with - is the other way round. */
    private static String upTo(String[] upward, int k) {
        return k >= 0 ? upward[k] : "-" + upward[-1 - k];
    }
}

/** TEXTS at their edges, typed, read, written and put out: promises 21 to 24. */
public final class TextEdgesTest extends Checks {
    private static final int ROOM = 120;

    public static void main(String[] args) {
        characters();
        fullText();
        textsThatAreNone();
        for (int f = 0; f < 3; f++) {
            leastTexts(f);
            greatestTexts(f);
            pointsAndExponents(f);
            everyDigitInEveryPlace(f);
            oneTextBehindAnother(f);
            exponentsBeyond(f);
            lettersGreatOrSmall(f);
            payloads(f);
            writtenPlain(f);
            writtenWithExponents(f);
            writtenAndReadAgain(f);
        }
        exponentsOfAnyLength();
        emptiedTexts();
        outputs();
        end();
    }

    // type.

    /** A character is 0 .. 127; what is none leaves the text as it was. */
    private static void characters() {
        for (int c = 0; c <= 127; c++) {
            DecimalBits x = new DecimalBits();
            due("type(" + c + ")", x.type(c), true);
            int from = c;
            if (c >= '0' && c <= '9') {
                due("read of character " + c, outcome(() -> x.read(0, 1)), "answers 0");
                due("read of character " + c, datum(x, 0), (char) from + "E0");
            } else {
                refused("read of character " + c, () -> x.read(0, 1));
            }
        }
        int[] none = {
            -1, 128, 129, 176, 255, 256, 256 + '7', 65536, 65536 + '7', -65536 + '7', '7' - 128, '7' - 256, 1 << 30,
            Integer.MIN_VALUE, Integer.MIN_VALUE + '7', Integer.MAX_VALUE
        };
        DecimalBits x = new DecimalBits();
        for (int c : none) {
            due("type(" + c + ") of an empty text", x.type(c), false);
        }
        refused("a text of none", () -> x.read(0, 1));
        x.type('4');
        for (int c : none) {
            due("type(" + c + ")", x.type(c), false);
        }
        x.type('2');
        due("read of what was typed", outcome(() -> x.read(0, 1)), "answers 0");
        due("read of what was typed", datum(x, 0), "42E0");
    }

    /** False if the text has 120: it stays as it was. */
    private static void fullText() {
        DecimalBits x = new DecimalBits();
        for (int k = 1; k <= ROOM; k++) {
            due("type of character " + k, x.type(k == ROOM ? '7' : '0'), true);
        }
        for (int c : new int[] {'1', '.', 'E', 0, 127, -1, 128}) {
            due("type of one more, " + c, x.type(c), false);
        }
        due("read of a full text", outcome(() -> x.read(0, 2)), "answers 0");
        due("read of a full text", datum(x, 0), "7E0");
        for (int k = 1; k <= ROOM; k++) {
            due("type of character " + k + ", again", x.type(k == ROOM ? 'X' : '0'), true);
        }
        due("type of one more, again", x.type('0'), false);
        refused("read of a full text that is none", () -> x.read(0, 2));
        due("the text is empty then", x.type('5'), true);
        due("the text is empty then", outcome(() -> x.read(0, 2)), "answers 0");
        due("the text is empty then", datum(x, 0), "5E0");
    }

    // Which texts there are.

    private static void refusedText(String text) {
        for (int f = 0; f < 3; f++) {
            DecimalBits x = new DecimalBits();
            set(x, 0, f, "9E0");
            x.trap(31);
            type(x, text);
            int format = f;
            refused("read of " + text, () -> x.read(0, format));
            due("register 0 behind " + text, datum(x, 0), "9E0");
            due("LAST behind " + text, datum(x, 8), "0E0");
            due("flags behind " + text, x.flags(), 0);
            due("the text behind " + text, outcome(() -> put(x, 1, format, "3")), "answers 0");
            due("the text behind " + text, datum(x, 1), "3E0");
        }
    }

    private static void textsThatAreNone() {
        String[] numbers = {
            "", "+", "-", ".", "+.", "-.", "..", "E", "E1", ".E1", "+E1", "-.E1", "1E", "1E+", "1E-", "1.E", "1E+-1",
            "1E--1", "1E++1", "1E1.", "1E.1", "1E1.0", "1.1.1", "..1", "1..", "1..1", ".1.", "1 ", " 1", "1 1", "1+",
            "1-", "1E1E1", "1EE1", "1E1+", "1E1-", "+-1", "-+1", "++1", "--1", "- 1", "1-1", "1d", "1f", "1L", "0x1",
            "1_0", "1,0", "1'0", "1/1", "1:1", "(1)", "$1", "1%", "e", "1e", "1\n", "\t1", "1\u0000", "\u00001",
            "1\u007f"
        };
        String[] words = {
            "I", "IN", "INFI", "INFIN", "INFINI", "INFINIT", "INFINITYY", "INF0", "INF.", "INFE1", "INF+", "INFINITY1",
            "INF INITY", "+-INF", "--INF", "1INF", "INFINF", "N", "NA", "NANX", "NAN.", "NAN1.", "NAN1.0", "NAN 1",
            "NAN+1", "NAN-1", "NAN1E1", "NANE1", "NAN(1)", "NANNAN", "1NAN", "S", "SN", "SNA", "SNANX", "SNAN-1",
            "SNAN1X", "SNAN.", "SINF", "S1", "SS", "SSNAN", "QNAN", "NANS", "+-NAN", "--SNAN", "+", "ZERO", "INFINITE"
        };
        for (String text : numbers) {
            refusedText(text);
        }
        for (String text : words) {
            refusedText(text);
            refusedText("-" + text);
            refusedText(text.toLowerCase());
        }
        // Characters that one bit tells from those that count: control characters from digits, signs and the point.
        for (char c : "0123456789+-.EeINFatys".toCharArray()) {
            for (int bit : new int[] {16, 32, 64}) {
                char other = (char) (c ^ bit);
                if ("0123456789+-.EeINFINTYSAinfintysa".indexOf(other) < 0) {
                    refusedText("1" + other + "1");
                    refusedText(other + "1");
                    refusedText("IN" + other);
                    refusedText("NA" + other);
                }
            }
        }
    }

    /** One digit at least, with a point before or behind it. */
    private static void leastTexts(int f) {
        String[][] rows = {
            {"0", "0E0"}, {"7", "7E0"}, {"+7", "7E0"}, {"-7", "-7E0"}, {".7", "7E-1"}, {"7.", "7E0"}, {"+.7", "7E-1"},
            {"-7.", "-7E0"}, {"-.0", "-0E-1"}, {"-0", "-0E0"}, {"+0", "0E0"}, {"0.", "0E0"}, {".0", "0E-1"},
            {"7E0", "7E0"}, {"7E1", "7E1"}, {"7E+1", "7E1"}, {"7E-1", "7E-1"}, {".7E1", "7E0"}, {"7.E1", "7E1"},
            {"-.0E0", "-0E-1"}, {"7E-0", "7E0"}, {"7E+0", "7E0"}, {"INF", "Infinity"}, {"NAN", "NaN"}, {"SNAN", "sNaN"},
            {"-INF", "-Infinity"}, {"+INF", "Infinity"}, {"-NAN", "-NaN"}, {"+NAN", "NaN"}, {"-SNAN", "-sNaN"},
            {"+SNAN", "sNaN"}, {"NAN0", "NaN"}, {"NAN7", "NaN7"}, {"SNAN0", "sNaN"}, {"-SNAN7", "-sNaN7"},
            {"INFINITY", "Infinity"}, {"-INFINITY", "-Infinity"}, {"+INFINITY", "Infinity"}
        };
        for (String[] row : rows) {
            read(f, 0, row[0], row[1] + " 0");
        }
    }

    private static void readFull(int f, String text, String want) {
        due("characters of a full text", text.length(), ROOM);
        read(f, 0, text, want);
    }

    /** Of 120 characters. */
    private static void greatestTexts(int f) {
        readFull(f, "0".repeat(119) + "7", "7E0 0");
        readFull(f, "-" + "0".repeat(118) + "7", "-7E0 0");
        readFull(f, "0".repeat(118) + "7.", "7E0 0");
        readFull(f, "7." + "0".repeat(118), "7" + "0".repeat(P[f] - 1) + "E" + (1 - P[f]) + " 0");
        String great = "7" + "0".repeat(P[f] - 1) + "E" + (120 - P[f]) + " 0";
        readFull(f, "7" + "0".repeat(119), f == 0 ? "Infinity 20" : great);
        readFull(f, "." + "0".repeat(118) + "7", f == 0 ? "0E-101 24" : "7E-119 0");
        readFull(f, "." + "0".repeat(115) + "7E20", "7E-96 0");
        readFull(f, "7E" + "0".repeat(117) + "5", "7E5 0");
        readFull(f, "7E-" + "0".repeat(116) + "5", "7E-5 0");
        readFull(f, "7E" + nines(118), "Infinity 20");
        readFull(f, "7E-" + nines(117), "0E" + -BIAS[f] + " 24");
        readFull(f, "0E" + nines(118), "0E" + GREATEST[f] + " 0");
        readFull(f, "-0E-" + nines(116), "-0E" + -BIAS[f] + " 0");
        readFull(f, "NAN" + "0".repeat(116) + "7", "NaN7 0");
        readFull(f, "-SNAN" + "0".repeat(114) + "7", "-sNaN7 0");
        readFull(f, "NAN" + "0".repeat(118 - P[f]) + nines(P[f] - 1), "NaN" + nines(P[f] - 1) + " 0");
        readFull(f, "NAN" + nines(117), "NaN 0");
        readFull(f, "+SNAN1" + "0".repeat(114), "sNaN 0");
        readFull(f, "1" + "0".repeat(114) + "E-114", ten(P[f] - 1) + "E" + (1 - P[f]) + " 0");
        readFull(f, "." + "0".repeat(114) + "1E115", "1E0 0");
    }

    /** Wish the q that its last digit tells: - how many are behind the point, and the exponent. */
    private static void pointsAndExponents(int f) {
        String[][] rows = {
            {"1.50", "150E-2"}, {"01.50", "150E-2"}, {"1.50E3", "150E1"}, {"1.50E+2", "150E0"}, {"1.50E-3", "150E-5"},
            {"1.E5", "1E5"}, {".5E1", "5E0"}, {"00.500", "500E-3"}, {"0.00E2", "0E0"}, {"-0.000E-2", "-0E-5"},
            {"12E-2", "12E-2"}, {"120E+07", "120E7"}, {"0012", "12E0"}, {"0.0012", "12E-4"}, {"1E-05", "1E-5"},
            {"1E00000000000000000005", "1E5"}, {"1E-00000000000000000005", "1E-5"}, {"1E+000", "1E0"}, {"10.", "10E0"},
            {"0E5", "0E5"}, {"0.0E5", "0E4"}, {"000", "0E0"}, {"000.000", "0E-3"}
        };
        for (String[] row : rows) {
            read(f, 0, row[0], row[1] + " 0");
            read(f, 3, "+" + row[0].replaceFirst("^-", ""), row[1].replaceFirst("^-", "") + " 0");
        }
        read(f, 0, "0." + "0".repeat(100) + "1E101", "1E0 0");
        read(f, 0, "1" + "0".repeat(100) + "E-100", ten(P[f] - 1) + "E" + (1 - P[f]) + " 0");
    }

    private static void everyDigitInEveryPlace(int f) {
        for (int d = 0; d <= 9; d++) {
            String last = d + " 0";
            read(f, 0, "" + d, d + "E0 0");
            read(f, 0, d + ".", d + "E0 0");
            read(f, 0, "." + d, d + "E-1 0");
            read(f, 0, "1" + d + "1", "1" + d + "1E0 0");
            read(f, 0, "1" + d + ".1", "1" + d + "1E-1 0");
            read(f, 0, "1." + d + "1", "1" + d + "1E-2 0");
            read(f, 0, "." + d + "1", d + "1E-2 0");
            read(f, 0, "1E" + d, "1E" + last);
            read(f, 0, "1E1" + d, "1E1" + last);
            read(f, 0, "1E+" + d + "0", "1E" + 10 * d + " 0");
            read(f, 0, "10E-1" + d, "10E-1" + last);
            read(f, 0, "NAN1" + d, "NaN1" + last);
            read(f, 0, "NAN" + d + "1", "NaN" + (10 * d + 1) + " 0");
            read(f, 0, "SNAN1" + d, "sNaN1" + last);
        }
    }

    /** A text tells nothing of the one before it. */
    private static void oneTextBehindAnother(int f) {
        String[][] rows = {
            {"7", "7E0"}, {"-7.25E-3", "-725E-5"}, {"0", "0E0"}, {"1E9999", "Infinity"}, {"-1E-9999", "-0E" + -BIAS[f]},
            {"-INF", "-Infinity"}, {"INFINITY", "Infinity"}, {"NAN", "NaN"}, {"-NAN12", "-NaN12"}, {"SNAN", "sNaN"},
            {"sNaN34", "sNaN34"}, {"0E5", "0E5"}, {"NAN" + nines(100), "NaN"}
        };
        for (String[] first : rows) {
            for (String[] second : rows) {
                DecimalBits x = new DecimalBits();
                put(x, 0, f, first[0]);
                put(x, 0, f, second[0]);
                due("read of " + second[0] + " behind " + first[0], datum(x, 0), second[1]);
                type(x, first[0] + "X");
                refused("read of a text with X", () -> x.read(0, f));
                put(x, 1, f, second[0]);
                due("read of " + second[0] + " behind " + first[0] + "X", datum(x, 1), second[1]);
            }
        }
    }

    /** One beyond 99999999 in size counts as that; it is never another one by wrap-around. */
    private static void exponentsBeyond(int f) {
        String[] beyond = {
            "9999", "65536", "65537", "99999999", "100000000", "999999999", "2147483647", "2147483648", "2147483649",
            "4294967295", "4294967296", "4294967297", "4294967301", "9223372036854775807", "9223372036854775808",
            "18446744073709551615", "18446744073709551616", "18446744073709551617", "36893488147419103232",
            "340282366920938463463374607431768211456", "100000000000000000000000000000000000000000000000000"
        };
        String low = "E" + -BIAS[f];
        String high = "E" + GREATEST[f];
        for (String size : beyond) {
            read(f, 0, "1E" + size, "Infinity 20");
            read(f, 1, "-1E+0" + size, "-" + greatest(f) + " 20");
            read(f, 0, "." + "0".repeat(40) + "1E" + size, "Infinity 20");
            read(f, 0, "0E" + size, "0" + high + " 0");
            read(f, 0, "-0.000E" + size, "-0" + high + " 0");
            read(f, 0, "1E-" + size, "0" + low + " 24");
            read(f, 2, "1E-000" + size, "1" + low + " 24");
            read(f, 0, "1" + "0".repeat(40) + "E-" + size, "0" + low + " 24");
            read(f, 0, "0E-" + size, "0" + low + " 0");
            read(f, 0, "-0.000E-" + size, "-0" + low + " 0");
        }
    }

    private static void exponentsOfAnyLength() {
        String[][] rows = {
            {"1E9", "1E9"}, {"1E10", "1E10"}, {"1E99", "1E99"}, {"1E100", "1E100"}, {"1E999", "1E999"},
            {"1E1000", "1E1000"}, {"1E6111", "1E6111"}, {"1E-6176", "1E-6176"}, {"1E0006111", "1E6111"}
        };
        for (String[] row : rows) {
            read(2, 0, row[0], row[1] + " 0");
        }
    }

    /** Letters great or small, also mixed. */
    private static void lettersGreatOrSmall(int f) {
        String[] infinities = {"inf", "INF", "Inf", "iNf", "inF", "infinity", "INFINITY", "Infinity", "iNFINITy"};
        String[] nans = {"nan", "NAN", "NaN", "nAn", "Nan"};
        for (String text : infinities) {
            read(f, 0, text, "Infinity 0");
            read(f, 3, "-" + text, "-Infinity 0");
        }
        for (String text : nans) {
            read(f, 0, text, "NaN 0");
            read(f, 0, "-" + text + "12", "-NaN12 0");
            for (String s : new String[] {"s", "S"}) {
                read(f, 0, s + text, "sNaN 0");
                read(f, 0, "+" + s + text + "12", "sNaN12 0");
            }
        }
        read(f, 0, "1e5", "1E5 0");
        read(f, 0, "1E5", "1E5 0");
        read(f, 0, "1e-5", "1E-5 0");
    }

    /** 0 if it has more than P - 1 digits without its first zeros; a SNAN signals nothing. */
    private static void payloads(int f) {
        String most = nines(P[f] - 1);
        for (String s : new String[] {"", "s"}) {
            read(f, 0, s + "NaN" + most, s + "NaN" + most + " 0");
            read(f, 0, s + "NaN000" + most, s + "NaN" + most + " 0");
            read(f, 0, s + "NaN" + ten(P[f] - 2), s + "NaN" + ten(P[f] - 2) + " 0");
            read(f, 0, s + "NaN" + ten(P[f] - 1), s + "NaN 0");
            read(f, 0, s + "NaN0" + ten(P[f] - 1), s + "NaN 0");
            read(f, 0, s + "NaN" + most + "9", s + "NaN 0");
            read(f, 0, "-" + s + "NaN" + nines(100), "-" + s + "NaN 0");
            read(f, 0, s + "NaN" + "0".repeat(P[f] + 20), s + "NaN 0");
            read(f, 0, s + "NaN" + "0".repeat(P[f] + 20) + "12", s + "NaN12 0");
        }
        DecimalBits x = new DecimalBits();
        x.trap(31);
        due("read of a SNAN with all traps", outcome(() -> put(x, 0, f, "SNAN5")), "answers 0");
        due("read of a SNAN with all traps", datum(x, 0) + datum(x, 8) + x.flags(), "sNaN5sNaN50");
        refusedText("SNAN" + most + "9X");
    }

    private static void emptied(String what, DecimalBits x) {
        refused("read behind " + what, () -> x.read(3, 1));
        due("read behind " + what, outcome(() -> put(x, 3, 1, "8")), "answers 0");
        due("read behind " + what, datum(x, 3), "8E0");
    }

    /** The text is empty behind a read, whatever came of it; other calls leave it. */
    private static void emptiedTexts() {
        for (int d : NO_TARGETS) {
            DecimalBits x = new DecimalBits();
            type(x, "12");
            refused("read to register " + d, () -> x.read(d, 1));
            due("behind a refused read", datum(x, 0) + datum(x, 7) + datum(x, 8) + x.flags(), "0E00E00E00");
            emptied("a read to register " + d, x);
        }
        for (int f : NO_FORMATS) {
            DecimalBits x = new DecimalBits();
            type(x, "1E9999");
            refused("read to format " + f, () -> x.read(0, f));
            due("behind a refused read", datum(x, 0) + datum(x, 7) + datum(x, 8) + x.flags(), "0E00E00E00");
            emptied("a read to format " + f, x);
        }
        DecimalBits x = new DecimalBits();
        put(x, 0, 1, "12");
        emptied("a read", x);
        x.trap(OVERFLOW);
        type(x, "1E9999");
        trapped("read of 1E9999", () -> x.read(0, 1));
        due("behind a trapped read", datum(x, 0) + " " + datum(x, 8), "12E0 Infinity");
        emptied("a trapped read", x);
        type(x, "1");
        x.write(0);
        x.one(9, 1, 0);
        x.output(0);
        x.direct(2);
        refused("two of no register", () -> x.two(0, 1, 9, 9));
        type(x, "3");
        due("other calls leave the text", outcome(() -> x.read(0, 1)), "answers 0");
        due("other calls leave the text", datum(x, 0), "13E0");
    }

    // write and output.

    private static void written(int f, String datum, String want) {
        for (String sign : new String[] {"", "-"}) {
            DecimalBits x = new DecimalBits();
            x.trap(31);
            set(x, 2, f, sign + datum);
            int length = x.write(2);
            String what = "write of " + sign + datum + " in format " + f;
            due(what, output(x, length), sign + want);
            due("output behind " + what, x.output(length), DecimalBits.NONE);
            due("flags behind " + what, x.flags(), 0);
            due("register behind " + what, datum(x, 2), sign + datum);
            due("LAST behind " + what, datum(x, 8), "0E0");
        }
    }

    /** If q isn't above 0 and q + n - 1 not below -6: all digits, with a point before the last - q ones. */
    private static void writtenPlain(int f) {
        String[][] rows = {
            {"0E0", "0"}, {"7E0", "7"}, {"12E0", "12"}, {"10E0", "10"}, {"12E-1", "1.2"}, {"12E-2", "0.12"},
            {"12E-3", "0.012"}, {"7E-1", "0.7"}, {"7E-6", "0.000007"}, {"70E-7", "0.0000070"}, {"0E-1", "0.0"},
            {"0E-6", "0.000000"}, {"100E-2", "1.00"}, {"1200E-1", "120.0"}, {"123456E-6", "0.123456"},
            {"123456E-7", "0.0123456"}, {"123456E-11", "0.00000123456"}, {"7E-2", "0.07"}, {"7E-5", "0.00007"},
            {"0E-2", "0.00"}, {"0E-5", "0.00000"}
        };
        for (String[] row : rows) {
            written(f, row[0], row[1]);
        }
        String all = nines(P[f]);
        written(f, all + "E0", all);
        written(f, all + "E-1", nines(P[f] - 1) + ".9");
        written(f, all + "E" + (1 - P[f]), "9." + nines(P[f] - 1));
        written(f, all + "E" + -P[f], "0." + all);
        written(f, all + "E" + (-P[f] - 1), "0.0" + all);
        written(f, all + "E" + (-P[f] - 5), "0.00000" + all);
    }

    /** Else the first digit, a point and the others (no point if there is one), E, + or - and q + n - 1. */
    private static void writtenWithExponents(int f) {
        String[][] rows = {
            {"7E1", "7E+1"}, {"12E1", "1.2E+2"}, {"10E1", "1.0E+2"}, {"0E1", "0E+1"}, {"0E-7", "0E-7"},
            {"7E-7", "7E-7"}, {"70E-8", "7.0E-7"}, {"123E-9", "1.23E-7"}, {"1E9", "1E+9"}, {"1E10", "1E+10"},
            {"12E8", "1.2E+9"}, {"12E9", "1.2E+10"}, {"1E-9", "1E-9"}, {"1E-10", "1E-10"}, {"1E-99", "1E-99"},
            {"1E-100", "1E-100"}, {"0E-10", "0E-10"}, {"1E90", "1E+90"}, {"100E88", "1.00E+90"}
        };
        for (String[] row : rows) {
            written(f, row[0], row[1]);
        }
        String tail = nines(P[f] - 1);
        written(f, "9" + tail + "E1", "9." + tail + "E+" + P[f]);
        written(f, "9" + tail + "E" + (-P[f] - 6), "9." + tail + "E-7");
        written(f, greatest(f), "9." + tail + "E+" + EMAX[f]);
        written(f, "1E" + GREATEST[f], "1E+" + GREATEST[f]);
        written(f, "0E" + GREATEST[f], "0E+" + GREATEST[f]);
        written(f, least(f), "1E-" + BIAS[f]);
        written(f, "0E" + -BIAS[f], "0E-" + BIAS[f]);
        written(f, "9" + tail + "E" + -BIAS[f], "9." + tail + "E-" + (EMAX[f] - 1));
        written(f, "Infinity", "Infinity");
        written(f, "NaN", "NaN");
        written(f, "sNaN", "sNaN");
        written(f, "NaN7", "NaN7");
        written(f, "NaN10", "NaN10");
        written(f, "sNaN" + tail, "sNaN" + tail);
        written(f, "NaN" + tail, "NaN" + tail);
        if (f == 2) {
            written(f, "1E100", "1E+100");
            written(f, "1E999", "1E+999");
            written(f, "1E1000", "1E+1000");
            written(f, "10E999", "1.0E+1000");
            written(f, "1E-999", "1E-999");
            written(f, "1E-1000", "1E-1000");
            written(f, "1" + "0".repeat(33) + "E0", "1" + "0".repeat(33));
        }
    }

    private static void writtenAndReadAgain(int f) {
        String[] data = {
            "0E0", "0E-7", "0E5", "12E-3", "12E3", "100E-2", "7E-6", "7E-7", greatest(f), least(f), "Infinity", "NaN",
            "sNaN12", "0E" + GREATEST[f], "0E" + -BIAS[f], nines(P[f]) + "E-3", "NaN" + nines(P[f] - 1)
        };
        for (String datum : data) {
            for (String sign : new String[] {"", "-"}) {
                DecimalBits x = new DecimalBits();
                set(x, 0, f, sign + datum);
                int length = x.write(0);
                for (int k = 0; k < length; k++) {
                    x.type(x.output(k));
                }
                due("what is written is read, signals", x.read(1, f), 0);
                due("what is written is read", datum(x, 1), sign + datum);
            }
        }
    }

    /** NONE if there is none: also where a longer text was; a refused write leaves the output. */
    private static void outputs() {
        DecimalBits x = new DecimalBits();
        int[] none = {-1, 64, 120, 256, Integer.MIN_VALUE, Integer.MAX_VALUE};
        due("output(0) of a new object", x.output(0), DecimalBits.NONE);
        for (int k : none) {
            due("output(" + k + ") of a new object", x.output(k), DecimalBits.NONE);
        }
        set(x, 0, 2, "-" + nines(34) + "E-39");
        due("write of the longest one", x.write(0), 42);
        due("write of the longest one", output(x, 42), "-0.00000" + nines(34));
        due("write of a short one", x.write(1), 1);
        due("its output", x.output(0), (int) '0');
        for (int k = 1; k <= 42; k++) {
            due("output(" + k + ") behind it", x.output(k), DecimalBits.NONE);
        }
        for (int k : none) {
            due("output(" + k + ")", x.output(k), DecimalBits.NONE);
        }
        set(x, 1, 1, "-12E0");
        due("the output is of the write, not of the register", x.output(0), (int) '0');
        due("write", x.write(1), 3);
        for (int r : NO_REGISTERS) {
            refused("write of register " + r, () -> x.write(r));
            due("the output behind a refused write", output(x, 3), "-12");
            due("the output behind a refused write", x.output(3), DecimalBits.NONE);
        }
        put(x, 2, 1, "5");
        due("the output behind a read", output(x, 3), "-12");
        due("write of LAST", x.write(8), 1);
        due("write of LAST", x.output(0), (int) '5');
    }
}

import java.util.ArrayList;
import java.util.List;

/** What refused calls, traps, flags, directions and many calls do to an object. */
public final class StateEdgesTest extends Checks {
    private static final int MOST_CALLS = 512;

    /** A call on an object that is handed to it. */
    private interface Step {
        long on(DecimalBits x);
    }

    public static void main(String[] args) {
        refusedTwo();
        refusedFused();
        refusedOne();
        refusedOthers();
        refusedQuestions();
        refusedReads();
        for (int f = 0; f < 3; f++) {
            trapsOfTwo(f);
            trapsOfThreeAndOne(f);
            trapsOfOthers(f);
            trapsOfQuestions(f);
            signalsOfTheirOwn(f);
            nothingLeftBehind(f);
        }
        trapsThatMeanNothing();
        flagsThatStay();
        loweredFlags();
        directions();
        lastAndTargets();
        manyCalls();
        end();
    }

    // Refused calls.

    /** Registers of two formats, SIGNALLING NaNs, all traps, flags, direction 3, a text and an output. */
    private static DecimalBits busy() {
        DecimalBits x = new DecimalBits();
        x.direct(3);
        set(x, 0, 1, "1E0");
        set(x, 1, 1, "0E0");
        set(x, 2, 1, "sNaN5");
        set(x, 3, 1, "Infinity");
        set(x, 4, 0, "7E0");
        set(x, 5, 2, "-sNaN6");
        set(x, 6, 1, "-3E2");
        set(x, 7, 2, "44E4");
        x.two(3, 7, 0, 1);
        x.two(3, 7, 0, 6);
        x.write(6);
        type(x, "12");
        x.trap(31);
        return x;
    }

    private static String snapshot(DecimalBits x) {
        StringBuilder s = new StringBuilder();
        for (int r = 0; r <= 8; r++) {
            s.append(x.format(r)).append(':').append(hex(x, r)).append(' ');
        }
        s.append(x.flags()).append(' ');
        for (int k = 0; x.output(k) >= 0; k++) {
            s.append((char) x.output(k));
        }
        return s.toString();
    }

    /** Nothing is done then, whatever else there is. */
    private static void nothingDone(String what, Step step) {
        DecimalBits x = busy();
        String before = snapshot(x);
        refused(what, () -> step.on(x));
        due("all behind " + what, snapshot(x), before);
        trapped("the traps behind " + what, () -> x.two(3, 7, 0, 1));
        x.trap(0);
        x.number(7, 0, 0, 10000025);
        due("the direction behind " + what, datum(x, 7), "1000002E1");
        x.number(7, 0, -1, -10000021);
        due("the direction behind " + what, datum(x, 7), "-1000003E1");
        due("the text behind " + what, outcome(() -> x.read(7, 1)), "answers 0");
        due("the text behind " + what, datum(x, 7), "12E0");
    }

    private static void refusedTwo() {
        for (int what : new int[] {-1, 11, 12, 256, Integer.MIN_VALUE, Integer.MAX_VALUE}) {
            nothingDone("two(" + what + ", 6, 0, 0)", x -> x.two(what, 6, 0, 0));
            nothingDone("two(" + what + ", 8, 0, 4)", x -> x.two(what, 8, 0, 4));
        }
        for (int what = 0; what <= 10; what++) {
            int op = what;
            for (int d : NO_TARGETS) {
                nothingDone("two(" + what + ", " + d + ", 0, 1)", x -> x.two(op, d, 0, 1));
                nothingDone("two(" + what + ", " + d + ", 2, 2)", x -> x.two(op, d, 2, 2));
            }
            for (int r : NO_REGISTERS) {
                nothingDone("two(" + what + ", 6, " + r + ", 0)", x -> x.two(op, 6, r, 0));
                nothingDone("two(" + what + ", 6, 2, " + r + ")", x -> x.two(op, 6, 2, r));
            }
            nothingDone("two(" + what + ", 6, 0, 4)", x -> x.two(op, 6, 0, 4));
            nothingDone("two(" + what + ", 6, 4, 0)", x -> x.two(op, 6, 4, 0));
            nothingDone("two(" + what + ", 6, 2, 5)", x -> x.two(op, 6, 2, 5));
            nothingDone("two(" + what + ", 6, 5, 8)", x -> x.two(op, 6, 5, 8));
        }
    }

    private static void refusedFused() {
        for (int d : NO_TARGETS) {
            nothingDone("fused(" + d + ", 0, 0, 0)", x -> x.fused(d, 0, 0, 0));
            nothingDone("fused(" + d + ", 1, 3, 2)", x -> x.fused(d, 1, 3, 2));
        }
        for (int r : NO_REGISTERS) {
            nothingDone("fused(6, " + r + ", 0, 2)", x -> x.fused(6, r, 0, 2));
            nothingDone("fused(6, 2, " + r + ", 0)", x -> x.fused(6, 2, r, 0));
            nothingDone("fused(6, 1, 3, " + r + ")", x -> x.fused(6, 1, 3, r));
        }
        int[][] mixed = {{4, 0, 0}, {0, 4, 0}, {0, 0, 4}, {4, 4, 0}, {0, 4, 4}, {4, 0, 4}, {1, 3, 5}, {4, 5, 8}};
        for (int[] m : mixed) {
            nothingDone("fused(6, " + m[0] + ", " + m[1] + ", " + m[2] + ")", x -> x.fused(6, m[0], m[1], m[2]));
        }
    }

    private static void refusedOne() {
        for (int what : new int[] {-1, 12, 13, 256, Integer.MIN_VALUE, Integer.MAX_VALUE}) {
            nothingDone("one(" + what + ", 6, 0)", x -> x.one(what, 6, 0));
            nothingDone("one(" + what + ", 6, 2)", x -> x.one(what, 6, 2));
        }
        for (int what = 0; what <= 11; what++) {
            int op = what;
            for (int d : NO_TARGETS) {
                nothingDone("one(" + what + ", " + d + ", 2)", x -> x.one(op, d, 2));
            }
            for (int r : NO_REGISTERS) {
                nothingDone("one(" + what + ", 6, " + r + ")", x -> x.one(op, 6, r));
            }
        }
    }

    private static void refusedOthers() {
        for (int d : NO_TARGETS) {
            nothingDone("scale(" + d + ", 2, 1)", x -> x.scale(d, 2, 1));
            nothingDone("scale(" + d + ", 0, 9999)", x -> x.scale(d, 0, 9999));
            nothingDone("convert(" + d + ", 2, 0)", x -> x.convert(d, 2, 0));
            nothingDone("number(" + d + ", 0, 1, 1)", x -> x.number(d, 0, 1, 1));
            nothingDone("load(" + d + ", 0, ..)", x -> {
                x.load(d, 0, 1, 1, 1, 1);
                return 0;
            });
        }
        for (int r : NO_REGISTERS) {
            nothingDone("scale(6, " + r + ", 1)", x -> x.scale(6, r, 1));
            nothingDone("convert(6, " + r + ", 0)", x -> x.convert(6, r, 0));
            nothingDone("write(" + r + ")", x -> x.write(r));
        }
        for (int f : NO_FORMATS) {
            nothingDone("convert(6, 2, " + f + ")", x -> x.convert(6, 2, f));
            nothingDone("convert(8, 9, " + f + ")", x -> x.convert(8, 9, f));
            nothingDone("number(6, " + f + ", 1, 1)", x -> x.number(6, f, 1, 1));
            nothingDone("load(6, " + f + ", ..)", x -> {
                x.load(6, f, 1, 1, 1, 1);
                return 0;
            });
        }
    }

    private static void refusedQuestions() {
        for (int r : NO_REGISTERS) {
            nothingDone("whole(" + r + ", 0, true)", x -> x.whole(r, 0, true));
            nothingDone("log(" + r + ")", x -> x.log(r));
            nothingDone("compare(" + r + ", 2, false)", x -> x.compare(r, 2, false));
            nothingDone("compare(2, " + r + ", true)", x -> x.compare(2, r, true));
            nothingDone("ordered(" + r + ", 0)", x -> x.ordered(r, 0) ? 1 : 0);
            nothingDone("ordered(0, " + r + ")", x -> x.ordered(0, r) ? 1 : 0);
        }
        for (int way : new int[] {-1, 6, 7, 256, Integer.MIN_VALUE, Integer.MAX_VALUE}) {
            nothingDone("whole(2, " + way + ", true)", x -> x.whole(2, way, true));
            nothingDone("whole(0, " + way + ", false)", x -> x.whole(0, way, false));
            nothingDone("whole(9, " + way + ", false)", x -> x.whole(9, way, false));
        }
        int[][] mixed = {{0, 4}, {4, 0}, {2, 5}, {5, 2}, {8, 5}, {4, 8}};
        for (int[] m : mixed) {
            nothingDone("compare(" + m[0] + ", " + m[1] + ", false)", x -> x.compare(m[0], m[1], false));
            nothingDone("ordered(" + m[0] + ", " + m[1] + ")", x -> x.ordered(m[0], m[1]) ? 1 : 0);
        }
    }

    /** The text is empty then, and nothing else is done. */
    private static void textAlone(String what, String more, int d, int f) {
        DecimalBits x = busy();
        type(x, more);
        String before = snapshot(x);
        refused(what, () -> x.read(d, f));
        due("all behind " + what, snapshot(x), before);
        trapped("the traps behind " + what, () -> x.two(3, 7, 0, 1));
        refused("the text behind " + what, () -> x.read(7, 1));
    }

    private static void refusedReads() {
        for (int d : NO_TARGETS) {
            textAlone("read(" + d + ", 1)", "", d, 1);
            textAlone("read(" + d + ", 1) of a great one", "E9999", d, 1);
        }
        for (int f : NO_FORMATS) {
            textAlone("read(6, " + f + ")", "", 6, f);
            textAlone("read(6, " + f + ") of a small one", "E-9999", 6, f);
        }
        for (String more : new String[] {"X", "E", "E+", ".1.", "NAN", " "}) {
            textAlone("read(6, 1) of 12" + more, more, 6, 1);
            textAlone("read(9, 9) of 12" + more, more, 9, 9);
        }
    }

    // Traps.

    /** Registers 0 .. 6 of format f; register 7 has another format. */
    private static DecimalBits desk(int f) {
        DecimalBits x = new DecimalBits();
        String[] data = {"1E0", "3E0", "0E0", "sNaN5", greatest(f), least(f), "-15E-1"};
        for (int r = 0; r < data.length; r++) {
            set(x, r, f, data[r]);
        }
        set(x, 7, (f + 1) % 3, "55E5");
        return x;
    }

    /** A call with d 7 that signals this, with each sum of traps, is stopped by those alone that it signals. */
    private static void withTraps(int f, String what, int signals, String result, Step step) {
        for (int traps = 0; traps < 32; traps++) {
            DecimalBits x = desk(f);
            x.trap(traps);
            boolean stops = (signals & traps) != 0;
            String where = what + " in format " + f + " with traps " + traps;
            due(where, outcome(() -> step.on(x)), stops ? "ArithmeticException" : "answers " + signals);
            due("flags behind " + where, x.flags(), signals);
            due("LAST behind " + where, datum(x, 8), plain(result));
            due("d behind " + where, datum(x, 7), stops ? "55E5" : plain(result));
            due("d's format behind " + where, x.format(7), stops ? (f + 1) % 3 : x.format(8));
            due("an operand behind " + where, datum(x, 3), "sNaN5");
            due("the next call behind " + where, outcome(() -> x.two(0, 6, 0, 1)), "answers 0");
            due("flags that stay behind " + where, x.flags(), signals);
        }
    }

    private static void trapsOfTwo(int f) {
        String low = "E" + -BIAS[f];
        withTraps(f, "1 + 3", 0, "4E0", x -> x.two(0, 7, 0, 1));
        withTraps(f, "1 / 3", INEXACT, "3".repeat(P[f]) + "E" + -P[f], x -> x.two(3, 7, 0, 1));
        withTraps(f, "1 / 0", DIVISION, "Infinity", x -> x.two(3, 7, 0, 2));
        withTraps(f, "0 / 0", INVALID, "NaN", x -> x.two(3, 7, 2, 2));
        withTraps(f, "the greatest, squared", OVERFLOW + INEXACT, "Infinity", x -> x.two(2, 7, 4, 4));
        withTraps(f, "the least, squared", UNDERFLOW + INEXACT, "0" + low, x -> x.two(2, 7, 5, 5));
        withTraps(f, "1 - sNaN", INVALID, "NaN5", x -> x.two(1, 7, 0, 3));
        withTraps(f, "remainder by 0", INVALID, "NaN", x -> x.two(4, 7, 0, 2));
        withTraps(f, "quantize beyond P", INVALID, "NaN", x -> x.two(5, 7, 4, 5));
        withTraps(f, "quantize", INEXACT, "-2E0", x -> x.two(5, 7, 6, 0));
        withTraps(f, "min of sNaN", INVALID, "NaN5", x -> x.two(6, 7, 3, 0));
        withTraps(f, "max size of sNaN", INVALID, "NaN5", x -> x.two(9, 7, 0, 3));
        withTraps(f, "copy sign of sNaN", 0, "-sNaN5", x -> x.two(10, 7, 3, 6));
    }

    private static void trapsOfThreeAndOne(int f) {
        String low = "E" + -BIAS[f];
        withTraps(f, "fused", 0, "6E0", x -> x.fused(7, 0, 1, 1));
        withTraps(f, "fused of sNaN", INVALID, "NaN5", x -> x.fused(7, 0, 1, 3));
        withTraps(f, "fused too great", OVERFLOW + INEXACT, "Infinity", x -> x.fused(7, 4, 4, 5));
        withTraps(f, "fused too small", UNDERFLOW + INEXACT, "0" + low, x -> x.fused(7, 5, 5, 2));
        withTraps(f, "fused", INEXACT, ten(P[f] - 1) + "E" + (1 - P[f]), x -> x.fused(7, 5, 5, 0));
        withTraps(f, "root below 0", INVALID, "NaN", x -> x.one(0, 7, 6));
        withTraps(f, "whole 0", 0, "-2E0", x -> x.one(1, 7, 6));
        withTraps(f, "whole", INEXACT, "-2E0", x -> x.one(6, 7, 6));
        withTraps(f, "whole of sNaN", INVALID, "NaN5", x -> x.one(1, 7, 3));
        withTraps(f, "next up of the greatest", 0, "Infinity", x -> x.one(7, 7, 4));
        withTraps(f, "next down of the least", 0, "0" + low, x -> x.one(8, 7, 5));
        withTraps(f, "next up of sNaN", INVALID, "NaN5", x -> x.one(7, 7, 3));
        withTraps(f, "next down of sNaN", INVALID, "NaN5", x -> x.one(8, 7, 3));
        withTraps(f, "negate of sNaN", 0, "-sNaN5", x -> x.one(9, 7, 3));
        withTraps(f, "size of sNaN", 0, "sNaN5", x -> x.one(10, 7, 3));
        withTraps(f, "canonical of sNaN", INVALID, "NaN5", x -> x.one(11, 7, 3));
    }

    private static void trapsOfOthers(int f) {
        String low = "E" + -BIAS[f];
        withTraps(f, "scale too great", OVERFLOW + INEXACT, "Infinity", x -> x.scale(7, 4, 1));
        withTraps(f, "scale too small", UNDERFLOW + INEXACT, "0" + low, x -> x.scale(7, 5, -1));
        withTraps(f, "scale of sNaN", INVALID, "NaN5", x -> x.scale(7, 3, 0));
        withTraps(f, "convert of sNaN", INVALID, "NaN5", x -> x.convert(7, 3, (f + 2) % 3));
        withTraps(f, "convert", 0, "-15E-1", x -> x.convert(7, 6, (f + 2) % 3));
        withTraps(f, "number", INEXACT, "4294967E3", x -> x.number(7, 0, 1, 1));
        withTraps(f, "number", 0, "1E0", x -> x.number(7, f, 0, 1));
        withTraps(f, "read too great", OVERFLOW + INEXACT, "-Infinity", x -> put(x, 7, f, "-1E9999"));
        withTraps(f, "read too small", UNDERFLOW + INEXACT, "0" + low, x -> put(x, 7, f, "1E-9999"));
        withTraps(f, "read", INEXACT, ten(P[f] - 1) + "E2", x -> put(x, 7, f, ten(P[f]) + "1"));
        withTraps(f, "read of sNaN", 0, "sNaN7", x -> put(x, 7, f, "sNaN7"));
        if (f > 0) {
            withTraps(f, "convert too great", OVERFLOW + INEXACT, "Infinity", x -> x.convert(7, 4, f - 1));
            withTraps(f, "convert too small", UNDERFLOW + INEXACT, "0E" + -BIAS[f - 1], x -> x.convert(7, 5, f - 1));
        }
    }

    /** WHOLE NUMBER, LOG and COMPARED: what they answer is told by no one then, and LAST stays. */
    private static void askedWithTraps(int f, String what, int signals, long answer, Step step) {
        for (int traps = 0; traps < 32; traps++) {
            DecimalBits x = desk(f);
            x.one(9, 7, 0);
            x.trap(traps);
            boolean stops = (signals & traps) != 0;
            String where = what + " in format " + f + " with traps " + traps;
            due(where, outcome(() -> step.on(x)), stops ? "ArithmeticException" : "answers " + answer);
            due("flags behind " + where, x.flags(), signals);
            due("LAST behind " + where, datum(x, 8), "-1E0");
            due("another register behind " + where, datum(x, 7), "-1E0");
        }
    }

    private static void trapsOfQuestions(int f) {
        askedWithTraps(f, "whole", INEXACT, -2, x -> x.whole(6, 0, true));
        askedWithTraps(f, "whole, not exactly", 0, -2, x -> x.whole(6, 0, false));
        askedWithTraps(f, "whole of sNaN", INVALID, Long.MIN_VALUE, x -> x.whole(3, 0, true));
        askedWithTraps(f, "whole of a great one", INVALID, Long.MIN_VALUE, x -> x.whole(4, 0, false));
        askedWithTraps(f, "whole of 3", 0, 3, x -> x.whole(1, 5, true));
        askedWithTraps(f, "log of 0", INVALID, Integer.MIN_VALUE, x -> x.log(2));
        askedWithTraps(f, "log of sNaN", INVALID, Integer.MIN_VALUE, x -> x.log(3));
        askedWithTraps(f, "log of 3", 0, 0, x -> x.log(1));
        askedWithTraps(f, "compare of sNaN", INVALID, 2, x -> x.compare(3, 0, true));
        askedWithTraps(f, "compare of sNaN", INVALID, 2, x -> x.compare(0, 3, false));
        askedWithTraps(f, "compare", 0, -1, x -> x.compare(0, 1, false));
        askedWithTraps(f, "ordered of sNaN", 0, 1, x -> x.ordered(3, 3) ? 1 : 0);
        askedWithTraps(f, "kind of sNaN", 0, 0, x -> x.kind(3));
        askedWithTraps(f, "alike of sNaN", 0, 1, x -> x.alike(3, 3) ? 1 : 0);
        askedWithTraps(f, "write of sNaN", 0, 5, x -> x.write(3));
        askedWithTraps(f, "load of sNaN", 0, 0, x -> {
            set(x, 0, f, "sNaN");
            return 0;
        });
    }

    /** The traps become those in a sum of flags; others mean nothing; those of before are none any more. */
    private static void trapsThatMeanNothing() {
        for (int some : new int[] {32, 64, -32, 1 << 30, Integer.MIN_VALUE, 31 << 5, 0}) {
            DecimalBits x = desk(1);
            x.trap(31);
            x.trap(some);
            due("with trap(" + some + "), 1 / 0", outcome(() -> x.two(3, 7, 0, 2)), "answers 2");
            due("with trap(" + some + "), too great", outcome(() -> x.two(2, 7, 4, 4)), "answers 20");
            due("with trap(" + some + "), too small", outcome(() -> x.two(2, 7, 5, 5)), "answers 24");
            due("with trap(" + some + "), invalid", outcome(() -> x.two(3, 7, 2, 2)), "answers 1");
            x.trap(some | DIVISION);
            trapped("with trap(" + (some | DIVISION) + ")", () -> x.two(3, 7, 0, 2));
            due("with another trap", outcome(() -> x.two(2, 7, 4, 4)), "answers 20");
        }
        DecimalBits x = desk(1);
        x.trap(-1);
        trapped("with trap(-1)", () -> x.two(3, 7, 0, 2));
        due("trap leaves the flags", x.flags(), DIVISION);
        due("a flag that is set, but not signalled, stops nothing", outcome(() -> x.two(0, 7, 0, 1)), "answers 0");
        x.lower(31);
        trapped("lower leaves the traps", () -> x.two(3, 7, 0, 2));
    }

    // Flags and directions.

    private static void flagsThatStay() {
        DecimalBits x = desk(1);
        due("1 / 0", x.two(3, 7, 0, 2), DIVISION);
        due("flags", x.flags(), DIVISION);
        due("0 / 0", x.two(3, 7, 2, 2), INVALID);
        due("flags", x.flags(), DIVISION + INVALID);
        due("1 / 3", x.two(3, 7, 0, 1), INEXACT);
        due("flags", x.flags(), DIVISION + INVALID + INEXACT);
        due("what is signalled again", x.two(3, 7, 0, 2), DIVISION);
        due("flags", x.flags(), DIVISION + INVALID + INEXACT);
        x.two(2, 7, 5, 5);
        due("flags", x.flags(), DIVISION + INVALID + INEXACT + UNDERFLOW);
        x.two(2, 7, 4, 4);
        due("flags", x.flags(), 31);
        x.two(0, 7, 0, 1);
        x.load(0, 1, 0, 0, 0, 0);
        x.direct(1);
        x.trap(0);
        due("flags", x.flags(), 31);
    }

    private static List<Step> signalling(int f) {
        List<Step> steps = new ArrayList<>();
        steps.add(x -> x.two(3, 7, 0, 2));
        steps.add(x -> x.two(3, 7, 2, 2));
        steps.add(x -> x.two(2, 7, 4, 4));
        steps.add(x -> x.fused(7, 5, 5, 2));
        steps.add(x -> x.one(6, 7, 6));
        steps.add(x -> x.scale(7, 4, 1));
        steps.add(x -> x.convert(7, 3, f));
        steps.add(x -> x.number(7, 0, 1, 1));
        steps.add(x -> put(x, 7, f, "1E9999"));
        steps.add(x -> x.whole(6, 0, true));
        steps.add(x -> x.log(2));
        steps.add(x -> x.compare(3, 3, true));
        return steps;
    }

    private static List<Step> silent(int f) {
        List<Step> steps = new ArrayList<>();
        steps.add(x -> x.two(0, 7, 0, 1));
        steps.add(x -> x.two(5, 7, 1, 0));
        steps.add(x -> x.two(7, 7, 1, 0));
        steps.add(x -> x.two(10, 7, 3, 3));
        steps.add(x -> x.fused(7, 0, 1, 1));
        steps.add(x -> x.one(0, 7, 0));
        steps.add(x -> x.one(6, 7, 0));
        steps.add(x -> x.one(7, 7, 4));
        steps.add(x -> x.one(11, 7, 0));
        steps.add(x -> x.scale(7, 0, 1));
        steps.add(x -> x.convert(7, 0, f));
        steps.add(x -> x.number(7, f, 0, 1));
        steps.add(x -> put(x, 7, f, "1"));
        steps.add(x -> x.whole(2, 0, true));
        steps.add(x -> x.log(0));
        steps.add(x -> x.compare(2, 2, false));
        steps.add(x -> {
            set(x, 7, f, "NaN");
            return x.compare(7, 0, true) - 2;
        });
        return steps;
    }

    /** A call answers what it signalled itself, and is stopped by that alone, whatever came before it. */
    private static void signalsOfTheirOwn(int f) {
        for (Step first : signalling(f)) {
            for (Step second : silent(f)) {
                DecimalBits x = desk(f);
                first.on(x);
                int before = x.flags();
                due("a signalling call", before != 0, true);
                x.trap(31);
                due("a call behind a signalling one", outcome(() -> second.on(x)), "answers 0");
                due("flags behind both", x.flags(), before);
                x.lower(31);
                due("the same call again", outcome(() -> second.on(x)), "answers 0");
                due("flags behind it", x.flags(), 0);
                due("a trapped one", outcome(() -> first.on(x)), "ArithmeticException");
                due("flags behind it", x.flags(), before);
                x.lower(31);
                due("a call behind a trapped one", outcome(() -> second.on(x)), "answers 0");
                due("flags behind it", x.flags(), 0);
            }
        }
    }

    /** What a call answers and leaves in d doesn't depend on another call before it, which has another d. */
    private static void nothingLeftBehind(int f) {
        List<Step> steps = new ArrayList<>(silent(f));
        steps.addAll(signalling(f));
        steps.add(x -> x.two(4, 7, 4, 1));
        steps.add(x -> x.two(3, 7, 0, 1));
        steps.add(x -> x.two(1, 7, 0, 5));
        steps.add(x -> x.one(0, 7, 1));
        steps.add(x -> x.scale(7, 2, 77));
        steps.add(x -> x.number(7, f, -1, -5));
        steps.add(x -> x.number(7, f, 0, 0));
        steps.add(x -> put(x, 7, f, "-12.5E-7"));
        steps.add(x -> put(x, 7, f, "-sNaN77"));
        for (Step second : steps) {
            DecimalBits alone = desk(f);
            String answer = outcome(() -> second.on(alone));
            String result = datum(alone, 7) + " " + alone.format(7);
            for (Step first : steps) {
                DecimalBits x = desk(f);
                first.on(x);
                set(x, 7, (f + 1) % 3, "55E5");
                due("a call behind another", outcome(() -> second.on(x)), answer);
                due("its result", datum(x, 7) + " " + x.format(7), result);
            }
        }
    }

    /** The flags in a sum of them are set no more: those that were. */
    private static void loweredFlags() {
        for (int before = 0; before < 32; before++) {
            for (int some = 0; some < 64; some++) {
                DecimalBits x = desk(1);
                x.two(3, 7, 0, 2);
                x.two(3, 7, 2, 2);
                x.two(2, 7, 5, 5);
                x.two(2, 7, 4, 4);
                due("lower(" + (31 - before) + ") of all", x.lower(31 - before), 31 - before);
                due("flags behind it", x.flags(), before);
                int sum = some < 32 ? some : some - 64;
                due("lower(" + sum + ") of " + before, x.lower(sum), before & some & 31);
                due("flags behind it", x.flags(), before & ~some);
                due("lower(" + sum + ") again", x.lower(sum), 0);
            }
        }
        due("lower of a new object", new DecimalBits().lower(-1), 0);
    }

    /** The direction becomes m; false if it isn't 0 .. 4: it stays. */
    private static void directions() {
        String[] up = {"1000002E1", "1000002E1", "1000003E1", "1000002E1", "1000003E1"};
        String[] down = {"-1000002E1", "-1000002E1", "-1000002E1", "-1000003E1", "-1000003E1"};
        String[] over = {"1000003E1", "1000002E1", "1000003E1", "1000002E1", "1000003E1"};
        for (int m = 0; m < 5; m++) {
            DecimalBits x = new DecimalBits();
            due("direct(" + m + ")", x.direct(m), true);
            for (int none : new int[] {-1, 5, 6, 256, -256, 1 << 30, Integer.MIN_VALUE, Integer.MAX_VALUE}) {
                due("direct(" + none + ")", x.direct(none), false);
                x.number(0, 0, 0, 10000025);
                due("direction " + m + " behind direct(" + none + ")", datum(x, 0), up[m]);
                x.number(0, 0, -1, -10000025);
                due("direction " + m + " behind direct(" + none + ")", datum(x, 0), down[m]);
                x.number(0, 0, 0, 10000026);
                due("direction " + m + " behind direct(" + none + ")", datum(x, 0), over[m]);
            }
        }
    }

    // LAST, targets that are operands, and many calls.

    private static void lastAndTargets() {
        for (int f = 0; f < 3; f++) {
            DecimalBits x = desk(f);
            due("d among the operands", x.two(0, 1, 1, 1) + " " + datum(x, 1), "0 6E0");
            due("LAST as operand", x.two(2, 0, 8, 8) + " " + datum(x, 0), "0 36E0");
            due("LAST as operand", x.two(1, 0, 8, 1) + " " + datum(x, 0), "0 30E0");
            due("LAST as operand", x.two(1, 0, 1, 8) + " " + datum(x, 0), "0 -24E0");
            due("LAST as operand", x.fused(7, 8, 8, 8) + " " + datum(x, 7), "0 552E0");
            due("the operands' format", x.format(7), f);
            due("LAST as operand", x.one(9, 6, 8) + " " + datum(x, 6), "0 -552E0");
            due("LAST as operand", x.scale(6, 8, 2) + " " + datum(x, 6), "0 -552E2");
            due("LAST as operand", x.convert(6, 8, (f + 1) % 3) + " " + datum(x, 6), "0 -552E2");
            due("LAST's format", x.format(8), (f + 1) % 3);
            due("d's format", x.format(6), (f + 1) % 3);
            refused("LAST of another format", () -> x.two(0, 0, 8, 1));
            due("LAST is asked", x.whole(8, 0, true) + " " + x.log(8) + " " + x.kind(8), "-55200 4 3");
            due("LAST is compared", x.compare(8, 6, false), 0);
            due("LAST is compared", x.ordered(8, 6) && x.alike(8, 6), true);
            x.number(2, f, 0, 9);
            due("LAST behind number", datum(x, 8) + " " + x.format(8), "9E0 " + f);
        }
        DecimalBits x = desk(1);
        x.trap(INEXACT);
        trapped("1 / 3 into 1", () -> x.two(3, 1, 0, 1));
        due("d, which is an operand, stays", datum(x, 1), "3E0");
        due("LAST has the result", datum(x, 8), "3333333333333333E-16");
        trapped("1 / 3 into 0", () -> x.two(3, 0, 0, 1));
        due("d, which is an operand, stays", datum(x, 0), "1E0");
    }

    /** An object is used for at most 512 calls: the last of them is answered as any other. */
    private static void manyCalls() {
        DecimalBits x = new DecimalBits();
        x.load(0, 1, 0x31c00000, 0, 0, 0);
        x.load(1, 1, 0x31c00000, 1, 0, 0);
        for (int call = 3; call < MOST_CALLS; call++) {
            x.two(0, 0, 0, 1);
        }
        due("call 512, a sum of ones", x.bits(0, 1), MOST_CALLS - 3);

        DecimalBits typed = new DecimalBits();
        for (int call = 1; call < MOST_CALLS; call++) {
            due("type in call " + call, typed.type(call <= 119 ? '0' : '7'), call <= 120);
        }
        due("call 512, a full text", outcome(() -> typed.read(0, 1)), "answers 0");

        DecimalBits read = new DecimalBits();
        for (int call = 1; call < MOST_CALLS - 1; call += 2) {
            read.type('0' + call % 10);
            read.read(call % 8, call % 3);
        }
        read.type('6');
        due("call 512, a short text", outcome(() -> read.read(0, 1)), "answers 0");
        due("what it read", datum(read, 0), "6E0");

        List<String> answers = new ArrayList<>();
        DecimalBits trapping = desk(2);
        trapping.trap(31);
        for (int call = 10; call <= MOST_CALLS; call++) {
            answers.add(outcome(() -> trapping.two(3, 7, 0, 1)));
        }
        due("call 512, trapped", answers.get(answers.size() - 1), "ArithmeticException");
        due("all of them", answers.stream().distinct().count(), 1L);

        DecimalBits written = new DecimalBits();
        for (int call = 1; call < MOST_CALLS; call++) {
            written.write(call % 9);
        }
        due("call 512, written", written.output(0), (int) '0');
    }
}

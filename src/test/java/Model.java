import java.math.BigDecimal;
import java.math.BigInteger;
import java.math.RoundingMode;
import java.util.regex.Matcher;
import java.util.regex.Pattern;

/** The document a second time, on BigDecimal, as near to its words as can be: what DecimalBits is held against. */
final class Model {
    static final int INVALID = 1;
    static final int DIVISION = 2;
    static final int OVERFLOW = 4;
    static final int UNDERFLOW = 8;
    static final int INEXACT = 16;

    private static final int[] WIDTH = {32, 64, 128};
    private static final int[] P = {7, 16, 34};
    private static final int[] EMAX = {96, 384, 6144};
    private static final int[] BIAS = {101, 398, 6176};
    private static final int[] B = {8, 10, 14};
    private static final int[] PAYLOAD = {20, 50, 110};
    /** Beyond every format, in both directions; a power that is farther out rounds as this one does. */
    private static final long FAR = 20000;
    private static final Pattern TEXT = Pattern.compile(
        "([+-]?)(?:(INF|INFINITY)|(S?NAN)([0-9]*)|([0-9]+\\.?[0-9]*|\\.[0-9]+)(?:E([+-]?[0-9]+))?)",
        Pattern.CASE_INSENSITIVE);

    enum Sort { FINITE, INFINITY, SIGNALLING, QUIET }

    /** A datum; c is the payload of a NaN. */
    record Datum(int f, Sort sort, boolean minus, BigInteger c, int q) {
        static Datum finite(int f, boolean minus, BigInteger c, long q) {
            return new Datum(f, Sort.FINITE, minus, c, (int) q);
        }

        static Datum infinity(int f, boolean minus) {
            return new Datum(f, Sort.INFINITY, minus, BigInteger.ZERO, 0);
        }

        static Datum nan(int f) {
            return new Datum(f, Sort.QUIET, false, BigInteger.ZERO, 0);
        }

        boolean isNaN() {
            return sort == Sort.SIGNALLING || sort == Sort.QUIET;
        }

        boolean isInfinite() {
            return sort == Sort.INFINITY;
        }

        boolean isFinite() {
            return sort == Sort.FINITE;
        }

        boolean isZero() {
            return isFinite() && c.signum() == 0;
        }

        BigDecimal size() {
            return new BigDecimal(c, -q);
        }

        BigDecimal value() {
            return minus ? size().negate() : size();
        }

        Datum signed(boolean sign) {
            return new Datum(f, sort, sign, c, q);
        }

        Datum quiet() {
            return new Datum(f, Sort.QUIET, minus, c, q);
        }
    }

    /** A size above 0 that decimals can be compared with. */
    private interface Size {
        int against(BigDecimal other);
    }

    final Datum[] registers = new Datum[9];
    int direction = 0;
    int flags = 0;
    int traps = 0;
    final StringBuilder text = new StringBuilder();
    String output = "";
    private int signals = 0;

    Model() {
        for (int r = 0; r < 9; r++) {
            registers[r] = Datum.finite(1, false, BigInteger.ZERO, 0);
        }
    }

    private static int least(int f) {
        return -BIAS[f];
    }

    private static int greatest(int f) {
        return EMAX[f] - P[f] + 1;
    }

    private static BigDecimal ten(long power) {
        return BigDecimal.ONE.scaleByPowerOfTen((int) power);
    }

    private static int digits(BigInteger c) {
        return c.signum() == 0 ? 0 : c.toString().length();
    }

    private static void demand(boolean allowed) {
        if (!allowed) {
            throw new IllegalArgumentException();
        }
    }

    private static boolean isRegister(int r) {
        return 0 <= r && r <= 8;
    }

    private static boolean isTarget(int r) {
        return 0 <= r && r <= 7;
    }

    private static boolean isFormat(int f) {
        return 0 <= f && f <= 2;
    }

    private void demandOneFormat(int... operands) {
        for (int r : operands) {
            demand(isRegister(r));
            demand(registers[r].f == registers[operands[0]].f);
        }
    }

    private int settle(int d, Datum result) {
        registers[8] = result;
        settleSignals();
        registers[d] = result;
        return signals;
    }

    private void settleSignals() {
        flags |= signals;
        if ((signals & traps) != 0) {
            throw new ArithmeticException();
        }
    }

    // Rounding.

    private Datum roundValue(BigDecimal x, boolean signOfZero, long wish, int f) {
        if (x.signum() == 0) {
            long q = Math.max(least(f), Math.min(wish, greatest(f)));
            return Datum.finite(f, signOfZero, BigInteger.ZERO, q);
        }
        BigDecimal size = x.abs();
        return roundSize(size::compareTo, x.signum() < 0, wish, f, direction);
    }

    /** Finds the places of x by halving alone, so that it shares nothing with the program. */
    private Datum roundSize(Size x, boolean minus, long wish, int f, int way) {
        long top = topPower(x);
        long q = Math.max(least(f), top - P[f] + 1);
        BigInteger down = floorAt(x, q, P[f] + 1);
        if (q <= greatest(f) && x.against(new BigDecimal(down, (int) -q)) == 0) {
            return exactNearest(down, q, minus, wish, f);
        }
        signals |= INEXACT;
        if (x.against(ten(1 - EMAX[f])) < 0) {
            signals |= UNDERFLOW;
        }
        BigInteger c = roundedAt(x, down, q, minus, way);
        if (digits(c) > P[f]) {
            q++;
            c = roundedAt(x, floorAt(x, q, P[f] + 1), q, minus, way);
        }
        if (q <= greatest(f)) {
            return Datum.finite(f, minus, c, q);
        }
        signals |= OVERFLOW;
        boolean infinite = way == 0 || way == 4 || way == 2 && !minus || way == 3 && minus;
        return infinite ? Datum.infinity(f, minus) : greatestNumber(f, minus);
    }

    private static Datum greatestNumber(int f, boolean minus) {
        return Datum.finite(f, minus, BigInteger.TEN.pow(P[f]).subtract(BigInteger.ONE), greatest(f));
    }

    private static long topPower(Size x) {
        long low = -4 * FAR;
        long high = 4 * FAR;
        while (high - low > 1) {
            long middle = Math.floorDiv(low + high, 2);
            if (x.against(ten(middle)) >= 0) {
                low = middle;
            } else {
                high = middle;
            }
        }
        return low;
    }

    private static BigInteger floorAt(Size x, long q, int mostDigits) {
        BigInteger low = BigInteger.ZERO;
        BigInteger high = BigInteger.TEN.pow(mostDigits);
        while (high.subtract(low).compareTo(BigInteger.ONE) > 0) {
            BigInteger middle = low.add(high).shiftRight(1);
            if (x.against(new BigDecimal(middle, (int) -q)) >= 0) {
                low = middle;
            } else {
                high = middle;
            }
        }
        return low;
    }

    private static BigInteger roundedAt(Size x, BigInteger down, long q, boolean minus, int way) {
        BigDecimal floor = new BigDecimal(down, (int) -q);
        if (x.against(floor) == 0) {
            return down;
        }
        int half = x.against(floor.add(ten(q).divide(BigDecimal.valueOf(2))));
        boolean up = switch (way) {
            case 0 -> half > 0 || half == 0 && down.testBit(0);
            case 1 -> false;
            case 2 -> !minus;
            case 3 -> minus;
            default -> half >= 0;
        };
        return up ? down.add(BigInteger.ONE) : down;
    }

    private static Datum exactNearest(BigInteger c, long q, boolean minus, long wish, int f) {
        while (q < wish && q < greatest(f) && c.mod(BigInteger.TEN).signum() == 0) {
            c = c.divide(BigInteger.TEN);
            q++;
        }
        return Datum.finite(f, minus, c, q);
    }

    /** A size to a whole multiple of ten to the q. */
    private static BigDecimal wholeAt(BigDecimal size, int q, boolean minus, int way) {
        RoundingMode mode = switch (way) {
            case 0 -> RoundingMode.HALF_EVEN;
            case 1 -> RoundingMode.DOWN;
            case 2 -> minus ? RoundingMode.DOWN : RoundingMode.UP;
            case 3 -> minus ? RoundingMode.UP : RoundingMode.DOWN;
            default -> RoundingMode.HALF_UP;
        };
        return size.setScale(-q, mode);
    }

    // NaNs.

    private Datum invalid(int f) {
        signals |= INVALID;
        return Datum.nan(f);
    }

    private static boolean anyNaN(Datum... operands) {
        for (Datum o : operands) {
            if (o.isNaN()) {
                return true;
            }
        }
        return false;
    }

    private Datum nanOf(Datum... operands) {
        for (Datum o : operands) {
            if (o.sort == Sort.SIGNALLING) {
                signals |= INVALID;
                return o.quiet();
            }
        }
        for (Datum o : operands) {
            if (o.isNaN()) {
                return o;
            }
        }
        throw new IllegalStateException();
    }

    // The calls.

    void load(int r, int f, int a, int b, int c, int d) {
        demand(isTarget(r) && isFormat(f));
        BigInteger all = BigInteger.ZERO;
        int[] words = {a, b, c, d};
        for (int k = 0; k < WIDTH[f] / 32; k++) {
            all = all.shiftLeft(32).or(BigInteger.valueOf(words[k] & 0xffffffffL));
        }
        registers[r] = decoded(f, all);
    }

    private static BigInteger field(BigInteger all, int from, int count) {
        return all.shiftRight(from).and(BigInteger.ONE.shiftLeft(count).subtract(BigInteger.ONE));
    }

    private static Datum decoded(int f, BigInteger all) {
        int w = WIDTH[f];
        boolean minus = all.testBit(w - 1);
        int firstFour = field(all, w - 5, 4).intValue();
        if (firstFour == 15) {
            if (!all.testBit(w - 6)) {
                return Datum.infinity(f, minus);
            }
            BigInteger payload = field(all, 0, PAYLOAD[f]);
            boolean good = digits(payload) <= P[f] - 1;
            Sort sort = all.testBit(w - 7) ? Sort.SIGNALLING : Sort.QUIET;
            return new Datum(f, sort, minus, good ? payload : BigInteger.ZERO, 0);
        }
        boolean second = firstFour >= 12;
        int rest = w - 1 - B[f] - (second ? 2 : 0);
        BigInteger c = field(all, 0, rest);
        if (second) {
            c = c.add(BigInteger.valueOf(4).shiftLeft(rest));
        }
        int q = field(all, rest, B[f]).intValue() - BIAS[f];
        return Datum.finite(f, minus, digits(c) <= P[f] ? c : BigInteger.ZERO, q);
    }

    private static BigInteger encoded(Datum a) {
        int w = WIDTH[a.f];
        BigInteger head;
        if (a.isFinite()) {
            int room = w - 1 - B[a.f];
            BigInteger biased = BigInteger.valueOf(a.q + BIAS[a.f]);
            if (a.c.bitLength() <= room) {
                head = biased.shiftLeft(room).or(a.c);
            } else {
                BigInteger kept = field(a.c, 0, room - 2);
                head = BigInteger.valueOf(3).shiftLeft(w - 3).or(biased.shiftLeft(room - 2)).or(kept);
            }
        } else {
            int five = a.isInfinite() ? 0b111100 : a.sort == Sort.QUIET ? 0b111110 : 0b111111;
            head = BigInteger.valueOf(five).shiftLeft(w - 7).or(a.c);
        }
        return a.minus ? head.setBit(w - 1) : head;
    }

    int bits(int r, int k) {
        if (!isRegister(r) || k < 0 || k >= WIDTH[registers[r].f] / 32) {
            return 0;
        }
        return encoded(registers[r]).shiftRight(WIDTH[registers[r].f] - 32 * (k + 1)).intValue();
    }

    int format(int r) {
        return isRegister(r) ? registers[r].f : -1;
    }

    boolean direct(int m) {
        if (0 <= m && m <= 4) {
            direction = m;
            return true;
        }
        return false;
    }

    int flags() {
        return flags;
    }

    int lower(int some) {
        int before = flags;
        flags = before & ~some;
        return before - flags;
    }

    void trap(int some) {
        traps = some & 31;
    }

    int two(int what, int d, int a, int b) {
        demand(0 <= what && what <= 10 && isTarget(d));
        demandOneFormat(a, b);
        signals = 0;
        return settle(d, ofTwo(what, registers[a], registers[b]));
    }

    private Datum ofTwo(int what, Datum a, Datum b) {
        if (what == 10) {
            return a.signed(b.minus);
        }
        if (what >= 6 && a.sort == Sort.QUIET && !b.isNaN()) {
            return b;
        }
        if (what >= 6 && b.sort == Sort.QUIET && !a.isNaN()) {
            return a;
        }
        if (anyNaN(a, b)) {
            return nanOf(a, b);
        }
        return switch (what) {
            case 0 -> added(a, b);
            case 1 -> added(a, b.signed(!b.minus));
            case 2 -> multiplied(a, b);
            case 3 -> divided(a, b);
            case 4 -> remainder(a, b);
            case 5 -> quantized(a, b);
            default -> chosen(what, a, b);
        };
    }

    private boolean signOfZeroSum(boolean one, boolean other) {
        return one && other || one != other && direction == 3;
    }

    private Datum added(Datum a, Datum b) {
        if (a.isInfinite() && b.isInfinite() && a.minus != b.minus) {
            return invalid(a.f);
        }
        if (a.isInfinite() || b.isInfinite()) {
            return a.isInfinite() ? a : b;
        }
        return roundValue(a.value().add(b.value()), signOfZeroSum(a.minus, b.minus), Math.min(a.q, b.q), a.f);
    }

    private static boolean zeroByInfinity(Datum a, Datum b) {
        return a.isZero() && b.isInfinite() || a.isInfinite() && b.isZero();
    }

    private Datum multiplied(Datum a, Datum b) {
        if (zeroByInfinity(a, b)) {
            return invalid(a.f);
        }
        boolean minus = a.minus ^ b.minus;
        if (a.isInfinite() || b.isInfinite()) {
            return Datum.infinity(a.f, minus);
        }
        return roundValue(a.value().multiply(b.value()), minus, a.q + b.q, a.f);
    }

    private Datum divided(Datum a, Datum b) {
        boolean minus = a.minus ^ b.minus;
        if (a.isZero() && b.isZero() || a.isInfinite() && b.isInfinite()) {
            return invalid(a.f);
        }
        if (a.isInfinite()) {
            return Datum.infinity(a.f, minus);
        }
        if (b.isZero()) {
            signals |= DIVISION;
            return Datum.infinity(a.f, minus);
        }
        if (b.isInfinite()) {
            return Datum.finite(a.f, minus, BigInteger.ZERO, least(a.f));
        }
        if (a.isZero()) {
            return roundValue(BigDecimal.ZERO, minus, a.q - b.q, a.f);
        }
        BigDecimal over = a.size();
        BigDecimal under = b.size();
        return roundSize(other -> over.compareTo(other.multiply(under)), minus, a.q - b.q, a.f, direction);
    }

    private Datum remainder(Datum a, Datum b) {
        if (a.isInfinite() || b.isZero()) {
            return invalid(a.f);
        }
        if (b.isInfinite()) {
            return a;
        }
        BigDecimal n = a.value().divide(b.value(), 0, RoundingMode.HALF_EVEN);
        return roundValue(a.value().subtract(b.value().multiply(n)), a.minus, Math.min(a.q, b.q), a.f);
    }

    private Datum quantized(Datum a, Datum b) {
        if (a.isInfinite() && b.isInfinite()) {
            return a;
        }
        if (a.isInfinite() || b.isInfinite()) {
            return invalid(a.f);
        }
        BigDecimal rounded = wholeAt(a.size(), b.q, a.minus, direction);
        if (digits(rounded.unscaledValue()) > P[a.f]) {
            return invalid(a.f);
        }
        if (rounded.compareTo(a.size()) != 0) {
            signals |= INEXACT;
        }
        return Datum.finite(a.f, a.minus, rounded.unscaledValue(), b.q);
    }

    private static int order(Datum a, Datum b) {
        if (a.isInfinite() || b.isInfinite()) {
            int left = a.isInfinite() ? a.minus ? -1 : 1 : 0;
            int right = b.isInfinite() ? b.minus ? -1 : 1 : 0;
            return Integer.compare(left, right);
        }
        return a.value().compareTo(b.value());
    }

    private static Datum chosen(int what, Datum a, Datum b) {
        int order = what >= 8 ? order(a.signed(false), b.signed(false)) : 0;
        if (order == 0) {
            order = order(a, b);
        }
        return order == 0 || order < 0 == (what % 2 == 0) ? a : b;
    }

    int fused(int d, int a, int b, int c) {
        demand(isTarget(d));
        demandOneFormat(a, b, c);
        signals = 0;
        return settle(d, ofThree(registers[a], registers[b], registers[c]));
    }

    private Datum ofThree(Datum a, Datum b, Datum c) {
        if (zeroByInfinity(a, b)) {
            signals |= INVALID;
            return c.isNaN() ? nanOf(c) : Datum.nan(a.f);
        }
        if (anyNaN(a, b, c)) {
            return nanOf(a, b, c);
        }
        boolean minus = a.minus ^ b.minus;
        if (a.isInfinite() || b.isInfinite()) {
            return c.isInfinite() && c.minus != minus ? invalid(a.f) : Datum.infinity(a.f, minus);
        }
        if (c.isInfinite()) {
            return c;
        }
        BigDecimal exact = a.value().multiply(b.value()).add(c.value());
        return roundValue(exact, signOfZeroSum(minus, c.minus), Math.min(a.q + b.q, c.q), a.f);
    }

    int one(int what, int d, int a) {
        demand(0 <= what && what <= 11 && isTarget(d) && isRegister(a));
        signals = 0;
        return settle(d, ofOne(what, registers[a]));
    }

    private Datum ofOne(int what, Datum a) {
        if (what == 9 || what == 10) {
            return a.signed(what == 9 && !a.minus);
        }
        if (a.isNaN()) {
            return nanOf(a);
        }
        switch (what) {
            case 0:
                return root(a);
            case 7:
                return nextUp(a);
            case 8:
                Datum up = nextUp(a.signed(!a.minus));
                return up.signed(!up.minus);
            case 11:
                return a;
            default:
                return madeWhole(a, what == 6 ? direction : what - 1, what == 6);
        }
    }

    private Datum root(Datum a) {
        long wish = Math.floorDiv(a.q, 2);
        if (a.isZero()) {
            return Datum.finite(a.f, a.minus, BigInteger.ZERO, wish);
        }
        if (a.minus) {
            return invalid(a.f);
        }
        if (a.isInfinite()) {
            return a;
        }
        BigDecimal square = a.size();
        return roundSize(other -> square.compareTo(other.multiply(other)), false, wish, a.f, direction);
    }

    private Datum madeWhole(Datum a, int way, boolean signalling) {
        if (a.isInfinite() || a.q >= 0) {
            return a;
        }
        BigDecimal rounded = wholeAt(a.size(), 0, a.minus, way);
        if (signalling && rounded.compareTo(a.size()) != 0) {
            signals |= INEXACT;
        }
        return Datum.finite(a.f, a.minus, rounded.unscaledValue(), 0);
    }

    /** By rounding up a value that lies above a's by less than any step. */
    private Datum nextUp(Datum a) {
        if (a.isInfinite()) {
            return a.minus ? greatestNumber(a.f, true) : a;
        }
        BigDecimal above = a.value().add(ten(least(a.f) - P[a.f] - 2));
        BigDecimal size = above.abs();
        int before = signals;
        Datum next = roundSize(size::compareTo, above.signum() < 0, least(a.f), a.f, 2);
        signals = before;
        return next;
    }

    int scale(int d, int a, int n) {
        demand(isTarget(d) && isRegister(a));
        signals = 0;
        Datum o = registers[a];
        if (o.isNaN()) {
            return settle(d, nanOf(o));
        }
        if (o.isInfinite()) {
            return settle(d, o);
        }
        int near = (int) Math.max(-FAR, Math.min(FAR, n));
        return settle(d, roundValue(o.value().scaleByPowerOfTen(near), o.minus, (long) o.q + n, o.f));
    }

    int convert(int d, int a, int f) {
        demand(isTarget(d) && isRegister(a) && isFormat(f));
        signals = 0;
        Datum o = registers[a];
        if (o.isNaN()) {
            Datum nan = nanOf(o);
            return settle(d, new Datum(f, Sort.QUIET, nan.minus, nan.c.mod(BigInteger.TEN.pow(P[f] - 1)), 0));
        }
        return settle(d, o.isInfinite() ? Datum.infinity(f, o.minus) : roundValue(o.value(), o.minus, o.q, f));
    }

    int number(int d, int f, int high, int low) {
        demand(isTarget(d) && isFormat(f));
        signals = 0;
        BigInteger whole = BigInteger.valueOf(high).shiftLeft(32).add(BigInteger.valueOf(low & 0xffffffffL));
        return settle(d, roundValue(new BigDecimal(whole), false, 0, f));
    }

    long whole(int a, int way, boolean exactly) {
        demand(isRegister(a) && 0 <= way && way <= 5);
        signals = 0;
        Datum o = registers[a];
        long answer = Long.MIN_VALUE;
        BigDecimal rounded = null;
        if (o.isFinite()) {
            rounded = wholeAt(o.size(), 0, o.minus, way == 5 ? direction : way);
            rounded = o.minus ? rounded.negate() : rounded;
        }
        if (rounded == null || rounded.toBigInteger().bitLength() > 63) {
            signals |= INVALID;
        } else {
            answer = rounded.longValueExact();
            if (exactly && rounded.compareTo(o.value()) != 0) {
                signals |= INEXACT;
            }
        }
        settleSignals();
        return answer;
    }

    int log(int a) {
        demand(isRegister(a));
        Datum o = registers[a];
        boolean good = o.isFinite() && !o.isZero();
        signals = good ? 0 : INVALID;
        settleSignals();
        return good ? digits(o.c) + o.q - 1 : Integer.MIN_VALUE;
    }

    int compare(int a, int b, boolean quiet) {
        demandOneFormat(a, b);
        Datum x = registers[a];
        Datum y = registers[b];
        signals = 0;
        if (!anyNaN(x, y)) {
            return order(x, y);
        }
        if (!quiet || x.sort == Sort.SIGNALLING || y.sort == Sort.SIGNALLING) {
            signals |= INVALID;
        }
        settleSignals();
        return 2;
    }

    /** The document's list of groups, from the first to the last. */
    private static int group(Datum a) {
        int outward = switch (a.sort) {
            case FINITE -> 1;
            case INFINITY -> 2;
            case SIGNALLING -> 3;
            case QUIET -> 4;
        };
        return a.minus ? -outward : outward;
    }

    boolean ordered(int a, int b) {
        demandOneFormat(a, b);
        Datum x = registers[a];
        Datum y = registers[b];
        int order = Integer.compare(group(x), group(y));
        if (order == 0 && x.isNaN()) {
            order = x.minus ? y.c.compareTo(x.c) : x.c.compareTo(y.c);
        } else if (order == 0 && x.isFinite()) {
            order = order(x, y);
            if (order == 0) {
                order = x.minus ? Integer.compare(y.q, x.q) : Integer.compare(x.q, y.q);
            }
        }
        return order <= 0;
    }

    int kind(int a) {
        if (!isRegister(a)) {
            return -1;
        }
        Datum o = registers[a];
        if (o.isNaN()) {
            return o.sort == Sort.SIGNALLING ? 0 : 1;
        }
        if (o.isInfinite()) {
            return o.minus ? 2 : 9;
        }
        if (o.isZero()) {
            return o.minus ? 5 : 6;
        }
        boolean less = o.size().compareTo(ten(1 - EMAX[o.f])) < 0;
        return o.minus ? less ? 4 : 3 : less ? 7 : 8;
    }

    boolean alike(int a, int b) {
        if (!isRegister(a) || !isRegister(b) || registers[a].f != registers[b].f) {
            return false;
        }
        Datum x = registers[a];
        Datum y = registers[b];
        if (x.isNaN() || y.isNaN()) {
            return x.isNaN() && y.isNaN();
        }
        return x.sort == y.sort && (x.isInfinite() || x.q == y.q);
    }

    boolean type(int c) {
        if (c < 0 || c > 127 || text.length() == 120) {
            return false;
        }
        text.append((char) c);
        return true;
    }

    int read(int d, int f) {
        Matcher m = TEXT.matcher(text.toString());
        text.setLength(0);
        demand(m.matches() && isTarget(d) && isFormat(f));
        signals = 0;
        boolean minus = m.group(1).equals("-");
        if (m.group(2) != null) {
            return settle(d, Datum.infinity(f, minus));
        }
        if (m.group(3) != null) {
            BigInteger payload = new BigInteger("0" + m.group(4));
            boolean good = digits(payload) <= P[f] - 1;
            Sort sort = m.group(3).length() == 4 ? Sort.SIGNALLING : Sort.QUIET;
            return settle(d, new Datum(f, sort, minus, good ? payload : BigInteger.ZERO, 0));
        }
        return settle(d, readNumber(m.group(5), m.group(6), minus, f));
    }

    private Datum readNumber(String digits, String power, boolean minus, int f) {
        int point = digits.indexOf('.');
        long behind = point < 0 ? 0 : digits.length() - 1 - point;
        BigInteger limit = BigInteger.valueOf(99999999);
        BigInteger exponent = power == null ? BigInteger.ZERO : new BigInteger(power);
        long q = exponent.max(limit.negate()).min(limit).longValue() - behind;
        BigDecimal x = new BigDecimal(new BigInteger(digits.replace(".", "")));
        x = x.scaleByPowerOfTen((int) Math.max(-FAR, Math.min(FAR, q)));
        return roundValue(minus ? x.negate() : x, minus, q, f);
    }

    int write(int a) {
        demand(isRegister(a));
        output = written(registers[a]);
        return output.length();
    }

    private static String written(Datum a) {
        String sign = a.minus ? "-" : "";
        if (a.isInfinite()) {
            return sign + "Infinity";
        }
        if (a.isNaN()) {
            return sign + (a.sort == Sort.SIGNALLING ? "sNaN" : "NaN") + (a.c.signum() == 0 ? "" : a.c);
        }
        String all = a.c.toString();
        int top = a.q + all.length() - 1;
        if (a.q <= 0 && top >= -6) {
            String padded = "0".repeat(Math.max(0, 1 - a.q - all.length())) + all;
            int before = padded.length() + a.q;
            return sign + padded.substring(0, before) + (a.q < 0 ? "." + padded.substring(before) : "");
        }
        String rest = all.length() > 1 ? "." + all.substring(1) : "";
        return sign + all.charAt(0) + rest + "E" + (top < 0 ? "-" : "+") + Math.abs(top);
    }

    int output(int k) {
        return 0 <= k && k < output.length() ? output.charAt(k) : -1;
    }
}

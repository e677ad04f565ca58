import java.util.Arrays;

/** Decimal floating-point numbers as bit patterns of 32, 64 and 128 bits, in nine registers, with flags and traps. */
public final class DecimalBits {
    public static final int NONE = -1;

    private static final int INVALID = 1;
    private static final int DIVISION = 2;
    private static final int OVERFLOW = 4;
    private static final int UNDERFLOW = 8;
    private static final int INEXACT = 16;
    private static final int ALL_FLAGS = 31;

    private static final int TO_EVEN = 0;
    private static final int UP = 2;
    private static final int DOWN = 3;
    private static final int TIES_AWAY = 4;
    private static final int PRESENT = 5;

    private static final int LAST = 8;
    private static final int NO_LOG = -2147483648;
    private static final long NO_WHOLE_NUMBER = -9223372036854775808L;

    private final Datum[] registers = new Datum[LAST + 1];
    private final Arithmetic arithmetic = new Arithmetic();
    private final Comparison comparison = new Comparison();
    private final BitPattern pattern = new BitPattern();
    private final TextReader reader = new TextReader();
    private final TextWriter writer = new TextWriter();
    private int direction = TO_EVEN;
    private int raised = 0;
    private int trapped = 0;

    public DecimalBits() {
        for (int r = 0; r <= LAST; r++) {
            registers[r] = new Datum();
        }
    }

    public void load(int r, int f, int a, int b, int c, int d) throws IllegalArgumentException {
        require(isTarget(r) && Formats.exists(f));
        pattern.take(a, b, c, d);
        pattern.decode(f, registers[r]);
    }

    public int bits(int r, int k) {
        if (!isRegister(r) || k < 0 || k >= Formats.WORDS[registers[r].form]) {
            return 0;
        }
        pattern.encode(registers[r]);
        return pattern.words[k];
    }

    public int format(int r) {
        return isRegister(r) ? registers[r].form : NONE;
    }

    public boolean direct(int m) {
        if (m < TO_EVEN || m > TIES_AWAY) {
            return false;
        }
        direction = m;
        return true;
    }

    public int flags() {
        return raised;
    }

    public int lower(int some) {
        int were = raised & some;
        raised &= ~some;
        return were;
    }

    public void trap(int some) {
        trapped = some & ALL_FLAGS;
    }

    public int two(int what, int d, int a, int b) throws IllegalArgumentException, ArithmeticException {
        require(what >= Arithmetic.ADD && what <= Arithmetic.COPY_SIGN && isTarget(d) && areOfOneFormat(a, b));
        return deliver(d, arithmetic.ofTwo(what, registers[a], registers[b], direction));
    }

    public int fused(int d, int a, int b, int c) throws IllegalArgumentException, ArithmeticException {
        require(isTarget(d) && areOfOneFormat(a, b) && areOfOneFormat(b, c));
        return deliver(d, arithmetic.ofThree(registers[a], registers[b], registers[c], direction));
    }

    public int one(int what, int d, int a) throws IllegalArgumentException, ArithmeticException {
        require(what >= Arithmetic.ROOT && what <= Arithmetic.CANONICAL && isTarget(d) && isRegister(a));
        return deliver(d, arithmetic.ofOne(what, registers[a], direction));
    }

    public int scale(int d, int a, int n) throws IllegalArgumentException, ArithmeticException {
        require(isTarget(d) && isRegister(a));
        return deliver(d, arithmetic.scaled(registers[a], n, direction));
    }

    public int convert(int d, int a, int f) throws IllegalArgumentException, ArithmeticException {
        require(isTarget(d) && isRegister(a) && Formats.exists(f));
        return deliver(d, arithmetic.converted(registers[a], f, direction));
    }

    public int number(int d, int f, int high, int low) throws IllegalArgumentException, ArithmeticException {
        require(isTarget(d) && Formats.exists(f));
        return deliver(d, arithmetic.fromWhole(f, high, low, direction));
    }

    public long whole(int a, int direction, boolean exactly) throws IllegalArgumentException, ArithmeticException {
        require(isRegister(a) && direction >= TO_EVEN && direction <= PRESENT);
        int chosen = direction == PRESENT ? this.direction : direction;
        signal(arithmetic.toWhole(registers[a], chosen, exactly));
        return arithmetic.wholeNumber;
    }

    public int log(int a) throws IllegalArgumentException, ArithmeticException {
        require(isRegister(a));
        Datum datum = registers[a];
        if (!datum.isFinite() || datum.isZero()) {
            signal(INVALID);
            return NO_LOG;
        }
        return datum.coefficient.digits() + datum.exponent - 1;
    }

    public int compare(int a, int b, boolean quiet) throws IllegalArgumentException, ArithmeticException {
        require(areOfOneFormat(a, b));
        Datum left = registers[a];
        Datum right = registers[b];
        if (!left.isNaN() && !right.isNaN()) {
            return comparison.values(left, right);
        }
        boolean signalling = left.sort == Datum.SIGNALLING || right.sort == Datum.SIGNALLING;
        signal(signalling || !quiet ? INVALID : 0);
        return 2;
    }

    public boolean ordered(int a, int b) throws IllegalArgumentException {
        require(areOfOneFormat(a, b));
        return comparison.inOrder(registers[a], registers[b]);
    }

    public int kind(int a) {
        if (!isRegister(a)) {
            return NONE;
        }
        Datum datum = registers[a];
        if (datum.isNaN()) {
            return datum.sort == Datum.SIGNALLING ? 0 : 1;
        }
        int size = datum.isInfinite() ? 3 : datum.isZero() ? 0 : datum.isTiny() ? 1 : 2;
        return datum.negative ? 5 - size : 6 + size;
    }

    public boolean alike(int a, int b) {
        if (!areOfOneFormat(a, b)) {
            return false;
        }
        Datum left = registers[a];
        Datum right = registers[b];
        if (left.isFinite() && right.isFinite()) {
            return left.exponent == right.exponent;
        }
        return left.isNaN() && right.isNaN() || left.isInfinite() && right.isInfinite();
    }

    public boolean type(int c) {
        return reader.append(c);
    }

    public int read(int d, int f) throws IllegalArgumentException, ArithmeticException {
        boolean right = reader.parse();
        reader.empty();
        require(right && isTarget(d) && Formats.exists(f));
        return deliver(d, arithmetic.fromText(reader, f, direction));
    }

    public int write(int a) throws IllegalArgumentException {
        require(isRegister(a));
        writer.put(registers[a]);
        return writer.length;
    }

    public int output(int k) {
        return k >= 0 && k < writer.length ? writer.characters[k] : NONE;
    }

    private static void require(boolean allowed) {
        if (!allowed) {
            throw new IllegalArgumentException();
        }
    }

    private static boolean isRegister(int r) {
        return r >= 0 && r <= LAST;
    }

    private static boolean isTarget(int r) {
        return r >= 0 && r < LAST;
    }

    private boolean areOfOneFormat(int a, int b) {
        return isRegister(a) && isRegister(b) && registers[a].form == registers[b].form;
    }

    private void signal(int signalled) {
        raised |= signalled;
        if ((signalled & trapped) != 0) {
            throw new ArithmeticException();
        }
    }

    private int deliver(int d, int signalled) {
        registers[LAST].copy(arithmetic.result);
        signal(signalled);
        registers[d].copy(arithmetic.result);
        return signalled;
    }

    /** What the three formats are; a format is looked at with exists before it comes here. */
    private static final class Formats {
        static final int[] DIGITS = {7, 16, 34};
        static final int[] EMAX = {96, 384, 6144};
        static final int[] BIAS = {101, 398, 6176};
        static final int[] WORDS = {1, 2, 4};
        static final int[] EXPONENT_BITS = {8, 10, 14};
        /** How many of the payload's bits stand in the highest word. */
        static final int[] PAYLOAD_BITS = {20, 18, 14};

        static boolean exists(int f) {
            return f >= 0 && f < DIGITS.length;
        }

        static int leastExponent(int f) {
            return -BIAS[f];
        }

        static int greatestExponent(int f) {
            return EMAX[f] - DIGITS[f] + 1;
        }
    }

    /** A natural number below ten to the 144: limbs of nine digits, the lowest first, as powers of ten move it most. */
    private static final class Natural {
        static final int LIMBS = 16;
        static final int LIMB_DIGITS = 9;
        static final int BASE = 1000000000;
        static final int[] POWERS = {1, 10, 100, 1000, 10000, 100000, 1000000, 10000000, 100000000};

        final int[] limbs = new int[LIMBS];

        void clear() {
            Arrays.fill(limbs, 0);
        }

        void copy(Natural other) {
            System.arraycopy(other.limbs, 0, limbs, 0, LIMBS);
        }

        void setOne() {
            clear();
            limbs[0] = 1;
        }

        void setPowerOfTen(int power) {
            clear();
            int limb = power / LIMB_DIGITS;
            if (power >= 0 && limb < LIMBS) {
                limbs[limb] = POWERS[power % LIMB_DIGITS];
            }
        }

        void setNines(int count) {
            for (int i = 0; i < LIMBS; i++) {
                int kept = count - i * LIMB_DIGITS;
                limbs[i] = kept >= LIMB_DIGITS ? BASE - 1 : kept > 0 ? POWERS[kept] - 1 : 0;
            }
        }

        int used() {
            int count = LIMBS;
            while (count > 0 && limbs[count - 1] == 0) {
                count--;
            }
            return count;
        }

        boolean isOdd() {
            return (limbs[0] & 1) != 0;
        }

        int digits() {
            int used = used();
            if (used == 0) {
                return 0;
            }
            int count = 1;
            while (count < LIMB_DIGITS && limbs[used - 1] >= POWERS[count]) {
                count++;
            }
            return (used - 1) * LIMB_DIGITS + count;
        }

        int digitAt(int place) {
            int limb = place / LIMB_DIGITS;
            return place < 0 || limb >= LIMBS ? 0 : limbs[limb] / POWERS[place % LIMB_DIGITS] % 10;
        }

        boolean hasDigitsBelow(int place) {
            for (int i = 0; i < LIMBS && (i + 1) * LIMB_DIGITS <= place; i++) {
                if (limbs[i] != 0) {
                    return true;
                }
            }
            int limb = place / LIMB_DIGITS;
            return place > 0 && limb < LIMBS && limbs[limb] % POWERS[place % LIMB_DIGITS] != 0;
        }

        int zerosAtEnd() {
            int digits = digits();
            int count = 0;
            while (count < digits && digitAt(count) == 0) {
                count++;
            }
            return count;
        }

        int against(Natural other) {
            for (int i = LIMBS - 1; i >= 0; i--) {
                if (limbs[i] != other.limbs[i]) {
                    return limbs[i] < other.limbs[i] ? -1 : 1;
                }
            }
            return 0;
        }

        /** Neither the factor nor what is added is above two to the 32: a long holds what comes between. */
        void timesPlus(long factor, long more) {
            long carry = more;
            for (int i = 0; i < LIMBS; i++) {
                long value = limbs[i] * factor + carry;
                limbs[i] = (int) (value % BASE);
                carry = value / BASE;
            }
        }

        /** Answers the remainder; the divisor is from 1 to two to the 32. */
        long divideBy(long divisor) {
            if (divisor < 1) {
                return 0;
            }
            long rest = 0;
            for (int i = LIMBS - 1; i >= 0; i--) {
                long value = rest * BASE + limbs[i];
                limbs[i] = (int) (value / divisor);
                rest = value % divisor;
            }
            return rest;
        }

        void add(Natural other) {
            int carry = 0;
            for (int i = 0; i < LIMBS; i++) {
                int value = limbs[i] + other.limbs[i] + carry;
                carry = value >= BASE ? 1 : 0;
                limbs[i] = value - carry * BASE;
            }
        }

        /** The other one is not greater. */
        void subtract(Natural other) {
            int borrow = 0;
            for (int i = 0; i < LIMBS; i++) {
                int value = limbs[i] - other.limbs[i] - borrow;
                borrow = value < 0 ? 1 : 0;
                limbs[i] = value + borrow * BASE;
            }
        }

        /** It is not 0. */
        void lessOne() {
            int i = 0;
            while (i < LIMBS - 1 && limbs[i] == 0) {
                limbs[i] = BASE - 1;
                i++;
            }
            limbs[i]--;
        }

        /** Neither of the two is this one. */
        void setProduct(Natural a, Natural b) {
            clear();
            int usedByA = a.used();
            int usedByB = b.used();
            for (int i = 0; i < usedByA; i++) {
                long carry = 0;
                for (int k = 0; i + k < LIMBS && (k < usedByB || carry != 0); k++) {
                    long value = limbs[i + k] + (long) a.limbs[i] * b.limbs[k] + carry;
                    limbs[i + k] = (int) (value % BASE);
                    carry = value / BASE;
                }
            }
        }

        void shiftUp(int places) {
            if (places <= 0) {
                return;
            }
            int far = places / LIMB_DIGITS;
            for (int i = LIMBS - 1; i >= 0 && far > 0; i--) {
                limbs[i] = i >= far ? limbs[i - far] : 0;
            }
            timesPlus(POWERS[places % LIMB_DIGITS], 0);
        }

        void shiftDown(int places) {
            if (places <= 0) {
                return;
            }
            int far = places / LIMB_DIGITS;
            for (int i = 0; i < LIMBS && far > 0; i++) {
                limbs[i] = i + far < LIMBS ? limbs[i + far] : 0;
            }
            divideBy(POWERS[places % LIMB_DIGITS]);
        }

        void keepLowest(int places) {
            for (int i = 0; i < LIMBS; i++) {
                int kept = places - i * LIMB_DIGITS;
                if (kept < LIMB_DIGITS) {
                    limbs[i] = kept > 0 ? limbs[i] % POWERS[kept] : 0;
                }
            }
        }

        void takeWord(int word) {
            timesPlus(1L << 32, word & 0xffffffffL);
        }

        int giveWord() {
            return (int) divideBy(1L << 32);
        }
    }

    /** Division of naturals, with rows of its own that every division uses again. */
    private static final class Divider {
        private final int[] rest = new int[Natural.LIMBS + 1];
        private final int[] by = new int[Natural.LIMBS + 1];

        /** The remainder may be the dividend; the quotient is neither of the two. By 0, the remainder is all. */
        void divide(Natural dividend, Natural divisor, Natural quotient, Natural remainder) {
            quotient.clear();
            int length = divisor.used();
            if (length == 0) {
                remainder.copy(dividend);
                return;
            }
            // Both are made greater until the divisor's highest limb is great: a guessed limb is hardly wrong then.
            int factor = Natural.BASE / (divisor.limbs[length - 1] + 1);
            spread(dividend, factor, rest);
            spread(divisor, factor, by);
            for (int at = dividend.used() - length; at >= 0; at--) {
                int times = guess(at, length);
                if (!takeOut(at, length, times)) {
                    putBack(at, length);
                    times--;
                }
                quotient.limbs[at] = times;
            }
            remainder.clear();
            System.arraycopy(rest, 0, remainder.limbs, 0, length);
            remainder.divideBy(factor);
        }

        private static void spread(Natural from, int factor, int[] to) {
            long carry = 0;
            for (int i = 0; i < Natural.LIMBS; i++) {
                long value = (long) from.limbs[i] * factor + carry;
                to[i] = (int) (value % Natural.BASE);
                carry = value / Natural.BASE;
            }
            to[Natural.LIMBS] = (int) carry;
        }

        /** Takes the divisor out of the rest at a limb so many times: whether it went so often. */
        private boolean takeOut(int at, int length, int times) {
            long carry = 0;
            for (int i = 0; i < length; i++) {
                long value = (long) times * by[i] + carry;
                int left = rest[at + i] - (int) (value % Natural.BASE);
                carry = value / Natural.BASE + (left < 0 ? 1 : 0);
                rest[at + i] = left < 0 ? left + Natural.BASE : left;
            }
            return rest[at + length] >= carry;
        }

        /** The limb of the quotient, or one more, from the two highest limbs of the divisor. */
        private int guess(int at, int length) {
            long first = by[length - 1];
            if (first == 0) {
                return 0;
            }
            long second = length > 1 ? by[length - 2] : 0;
            long third = at + length > 1 ? rest[at + length - 2] : 0;
            long top = (long) rest[at + length] * Natural.BASE + rest[at + length - 1];
            long guess = top / first;
            long over = top % first;
            for (int turn = 0; turn < 3 && over < Natural.BASE; turn++) {
                if (guess < Natural.BASE && guess * second <= over * Natural.BASE + third) {
                    break;
                }
                guess--;
                over += first;
            }
            return (int) guess;
        }

        private void putBack(int at, int length) {
            int carry = 0;
            for (int i = 0; i < length; i++) {
                int value = rest[at + i] + by[i] + carry;
                carry = value >= Natural.BASE ? 1 : 0;
                rest[at + i] = value - carry * Natural.BASE;
            }
        }
    }

    /** What a register holds. The coefficient of a NaN is its payload. */
    private static final class Datum {
        static final int FINITE = 0;
        static final int INFINITE = 1;
        static final int SIGNALLING = 2;
        static final int QUIET = 3;

        int form = 1;
        int sort = FINITE;
        boolean negative = false;
        int exponent = 0;
        final Natural coefficient = new Natural();

        void copy(Datum other) {
            form = other.form;
            sort = other.sort;
            negative = other.negative;
            exponent = other.exponent;
            coefficient.copy(other.coefficient);
        }

        void setFinite(Natural size, int q) {
            sort = FINITE;
            exponent = q;
            coefficient.copy(size);
        }

        /** For all that isn't finite; a payload comes behind this. */
        void setSpecial(int other) {
            sort = other;
            exponent = 0;
            coefficient.clear();
        }

        void setGreatest() {
            sort = FINITE;
            exponent = Formats.greatestExponent(form);
            coefficient.setNines(Formats.DIGITS[form]);
        }

        boolean isFinite() {
            return sort == FINITE;
        }

        boolean isInfinite() {
            return sort == INFINITE;
        }

        boolean isNaN() {
            return sort == SIGNALLING || sort == QUIET;
        }

        boolean isZero() {
            return sort == FINITE && coefficient.used() == 0;
        }

        /** Of a finite one that isn't zero: below ten to the (1 - EMAX). */
        boolean isTiny() {
            return exponent + coefficient.digits() <= 1 - Formats.EMAX[form];
        }
    }

    /** A datum's words, and the way there and back. All but a coefficient's lower bits is in the highest word. */
    private static final class BitPattern {
        private static final int INFINITE_HEAD = 0x78000000;
        private static final int QUIET_HEAD = 0x7c000000;
        private static final int SIGNALLING_HEAD = 0x7e000000;

        final int[] words = new int[4];
        private final Natural work = new Natural();

        void take(int a, int b, int c, int d) {
            words[0] = a;
            words[1] = b;
            words[2] = c;
            words[3] = d;
        }

        void decode(int f, Datum datum) {
            int head = words[0];
            int width = Formats.EXPONENT_BITS[f];
            datum.form = f;
            datum.negative = head < 0;
            if ((head & INFINITE_HEAD) == INFINITE_HEAD) {
                decodeSpecial(f, datum);
            } else if ((head >>> 29 & 3) != 3) {
                joinWords(f, lowBits(head, 31 - width), Formats.DIGITS[f]);
                datum.setFinite(work, lowBits(head >>> 31 - width, width) - Formats.BIAS[f]);
            } else {
                joinWords(f, 4 << 29 - width | lowBits(head, 29 - width), Formats.DIGITS[f]);
                datum.setFinite(work, lowBits(head >>> 29 - width, width) - Formats.BIAS[f]);
            }
        }

        private void decodeSpecial(int f, Datum datum) {
            int head = words[0];
            if ((head & QUIET_HEAD) != QUIET_HEAD) {
                datum.setSpecial(Datum.INFINITE);
                return;
            }
            datum.setSpecial((head & SIGNALLING_HEAD) == SIGNALLING_HEAD ? Datum.SIGNALLING : Datum.QUIET);
            joinWords(f, lowBits(head, Formats.PAYLOAD_BITS[f]), Formats.DIGITS[f] - 1);
            datum.coefficient.copy(work);
        }

        private static int lowBits(int word, int count) {
            return word & (1 << count) - 1;
        }

        private void joinWords(int f, int top, int mostDigits) {
            work.clear();
            work.takeWord(top);
            for (int k = 1; k < Formats.WORDS[f]; k++) {
                work.takeWord(words[k]);
            }
            if (work.digits() > mostDigits) {
                work.clear();
            }
        }

        void encode(Datum datum) {
            work.copy(datum.coefficient);
            for (int k = Formats.WORDS[datum.form] - 1; k > 0; k--) {
                words[k] = work.giveWord();
            }
            int sign = datum.negative ? 1 << 31 : 0;
            words[0] = sign | head(datum, work.giveWord());
        }

        private static int head(Datum datum, int top) {
            if (datum.isInfinite()) {
                return INFINITE_HEAD;
            }
            if (datum.isNaN()) {
                return (datum.sort == Datum.SIGNALLING ? SIGNALLING_HEAD : QUIET_HEAD) | top;
            }
            int width = Formats.EXPONENT_BITS[datum.form];
            int biased = datum.exponent + Formats.BIAS[datum.form];
            if (top < 1 << 31 - width) {
                return biased << 31 - width | top;
            }
            return 3 << 29 | biased << 29 - width | lowBits(top, 29 - width);
        }
    }

    /** An exact value ahead of rounding: with more, it is above its coefficient, but not by one. */
    private static final class Unrounded {
        boolean negative = false;
        final Natural coefficient = new Natural();
        long exponent = 0;
        long wish = 0;
        boolean more = false;

        /** The value of a finite datum, which wishes for the q it has. */
        void take(Datum datum) {
            negative = datum.negative;
            coefficient.copy(datum.coefficient);
            exponent = datum.exponent;
            wish = datum.exponent;
            more = false;
        }

        void copy(Unrounded other) {
            negative = other.negative;
            coefficient.copy(other.coefficient);
            exponent = other.exponent;
            wish = other.wish;
            more = other.more;
        }

        void setZero(boolean sign) {
            negative = sign;
            coefficient.clear();
            more = false;
        }

        void lowerExponent(int places) {
            coefficient.shiftUp(places);
            exponent -= places;
        }

        void dropZeros() {
            int zeros = coefficient.zerosAtEnd();
            coefficient.shiftDown(zeros);
            exponent += zeros;
        }
    }

    /** The one rounding that an operation has. */
    private static final class Rounding {
        /** More places than a natural has digits: all that lies deeper rounds alike. */
        private static final int FAR = 200;

        /** Rounds to the result's format: what is signalled. */
        static int round(Unrounded x, int direction, Datum result) {
            int f = result.form;
            long least = Formats.leastExponent(f);
            long greatest = Formats.greatestExponent(f);
            result.negative = x.negative;
            if (x.more) {
                return roundInexact(x, direction, result);
            }
            if (x.coefficient.used() == 0) {
                result.setFinite(x.coefficient, (int) nearest(x.wish, least, greatest));
                return 0;
            }
            x.dropZeros();
            int room = Formats.DIGITS[f] - x.coefficient.digits();
            long lowest = Math.max(x.exponent - room, least);
            long highest = Math.min(x.exponent, greatest);
            if (room < 0 || lowest > highest) {
                return roundInexact(x, direction, result);
            }
            long q = nearest(x.wish, lowest, highest);
            x.lowerExponent((int) (x.exponent - q));
            result.setFinite(x.coefficient, (int) q);
            return 0;
        }

        private static long nearest(long wish, long lowest, long highest) {
            return Math.max(lowest, Math.min(wish, highest));
        }

        private static int roundInexact(Unrounded x, int direction, Datum result) {
            int f = result.form;
            int digits = x.coefficient.digits();
            long greatest = Formats.greatestExponent(f);
            long q = Math.max(x.exponent + digits - Formats.DIGITS[f], Formats.leastExponent(f));
            if (q > greatest) {
                return overflow(x, direction, result);
            }
            boolean tiny = x.exponent + digits <= 1 - Formats.EMAX[f];
            cut(x.coefficient, (int) Math.min(q - x.exponent, FAR), x.more, direction, x.negative);
            if (x.coefficient.digits() > Formats.DIGITS[f]) {
                x.coefficient.shiftDown(1);
                q++;
            }
            if (q > greatest) {
                return overflow(x, direction, result);
            }
            result.setFinite(x.coefficient, (int) q);
            return tiny ? INEXACT | UNDERFLOW : INEXACT;
        }

        private static int overflow(Unrounded x, int direction, Datum result) {
            boolean outward = x.negative ? direction == DOWN : direction == UP;
            if (outward || direction == TO_EVEN || direction == TIES_AWAY) {
                result.setSpecial(Datum.INFINITE);
            } else {
                result.setGreatest();
            }
            return OVERFLOW | INEXACT;
        }

        /** Takes the lowest digits off, and rounds: whether that changes the value. */
        static boolean cut(Natural size, int places, boolean more, int direction, boolean negative) {
            int digit = size.digitAt(places - 1);
            boolean below = more || size.hasDigitsBelow(places - 1);
            size.shiftDown(places);
            boolean inexact = digit != 0 || below;
            if (inexact && growsInSize(digit, below, size.isOdd(), direction, negative)) {
                size.timesPlus(1, 1);
            }
            return inexact;
        }

        private static boolean growsInSize(int digit, boolean below, boolean odd, int direction, boolean negative) {
            switch (direction) {
                case TO_EVEN:
                    return digit > 5 || digit == 5 && (below || odd);
                case UP:
                    return !negative;
                case DOWN:
                    return negative;
                case TIES_AWAY:
                    return digit >= 5;
                default:
                    return false;
            }
        }
    }

    /** Comparisons, with a row of its own. */
    private static final class Comparison {
        private final Natural work = new Natural();

        /** Of data that are no NaNs: -1, 0 or 1. */
        int values(Datum a, Datum b) {
            if (a.isZero() && b.isZero()) {
                return 0;
            }
            if (a.negative != b.negative) {
                return a.negative ? -1 : 1;
            }
            int bySize = sizes(a, b);
            return a.negative ? -bySize : bySize;
        }

        /** As values, without the signs. */
        int sizes(Datum a, Datum b) {
            if (a.isInfinite() || b.isInfinite()) {
                return Integer.compare(a.sort, b.sort);
            }
            if (a.isZero() || b.isZero()) {
                return Integer.compare(a.isZero() ? 0 : 1, b.isZero() ? 0 : 1);
            }
            int top = a.exponent + a.coefficient.digits();
            int otherTop = b.exponent + b.coefficient.digits();
            if (top != otherTop) {
                return top < otherTop ? -1 : 1;
            }
            if (a.exponent >= b.exponent) {
                work.copy(a.coefficient);
                work.shiftUp(a.exponent - b.exponent);
                return work.against(b.coefficient);
            }
            work.copy(b.coefficient);
            work.shiftUp(b.exponent - a.exponent);
            return a.coefficient.against(work);
        }

        /** Whether a comes before b in the order of all data, or is the same. */
        boolean inOrder(Datum a, Datum b) {
            if (a.negative != b.negative) {
                return a.negative;
            }
            int outward = fromZeroOutward(a, b);
            return a.negative ? outward >= 0 : outward <= 0;
        }

        /** The order of data without a sign; those with one come the other way round. */
        private int fromZeroOutward(Datum a, Datum b) {
            if (a.sort != b.sort) {
                return a.sort < b.sort ? -1 : 1;
            }
            if (a.isNaN()) {
                return a.coefficient.against(b.coefficient);
            }
            int bySize = sizes(a, b);
            return bySize != 0 ? bySize : Integer.compare(a.exponent, b.exponent);
        }
    }

    /** The operations. Each leaves its datum in result and answers what it signals. */
    private static final class Arithmetic {
        static final int ADD = 0;
        static final int SUBTRACT = 1;
        static final int MULTIPLY = 2;
        static final int DIVIDE = 3;
        static final int REMAINDER = 4;
        static final int QUANTIZE = 5;
        static final int MIN = 6;
        static final int MAX = 7;
        static final int MIN_SIZE = 8;
        static final int MAX_SIZE = 9;
        static final int COPY_SIGN = 10;

        static final int ROOT = 0;
        static final int WHOLE_PRESENT = 6;
        static final int NEXT_UP = 7;
        static final int NEXT_DOWN = 8;
        static final int NEGATE = 9;
        static final int SIZE = 10;
        static final int CANONICAL = 11;

        /** Answered where x is still to be rounded. */
        private static final int TO_ROUND = -1;
        /** More digits than these no number of 64 bits has; so many still have room there, without a sign. */
        private static final int LONG_DIGITS = 19;

        final Datum result = new Datum();
        long wholeNumber = 0;
        private final Unrounded x = new Unrounded();
        private final Unrounded y = new Unrounded();
        private final Divider divider = new Divider();
        private final Comparison comparison = new Comparison();
        private final Natural work = new Natural();
        private final Natural quotient = new Natural();
        private final Natural modulus = new Natural();
        private final Natural power = new Natural();

        int ofTwo(int what, Datum a, Datum b, int direction) {
            result.copy(a);
            if (what == COPY_SIGN) {
                result.negative = b.negative;
                return 0;
            }
            if (a.isNaN() || b.isNaN()) {
                return what >= MIN ? pickBesideNaN(a, b) : passNaN(a, b, b);
            }
            int signalled;
            switch (what) {
                case ADD:
                    signalled = sum(a, b, b.negative, direction);
                    break;
                case SUBTRACT:
                    signalled = sum(a, b, !b.negative, direction);
                    break;
                case MULTIPLY:
                    signalled = product(a, b);
                    break;
                case DIVIDE:
                    signalled = ratio(a, b);
                    break;
                case REMAINDER:
                    signalled = remainder(a, b);
                    break;
                case QUANTIZE:
                    signalled = quantized(a, b, direction);
                    break;
                default:
                    signalled = pick(what, a, b);
            }
            return signalled == TO_ROUND ? Rounding.round(x, direction, result) : signalled;
        }

        int ofThree(Datum a, Datum b, Datum c, int direction) {
            result.copy(a);
            boolean zeroByInfinity = a.isZero() && b.isInfinite() || a.isInfinite() && b.isZero();
            if (a.isNaN() || b.isNaN() || c.isNaN()) {
                return passNaN(a, b, c) | (zeroByInfinity ? INVALID : 0);
            }
            if (zeroByInfinity) {
                return invalid();
            }
            if (a.isInfinite() || b.isInfinite()) {
                boolean negative = a.negative != b.negative;
                return c.isInfinite() && c.negative != negative ? invalid() : infinite(negative);
            }
            if (c.isInfinite()) {
                return infinite(c.negative);
            }
            multiplyIntoX(a, b);
            y.take(c);
            addToX(direction);
            return Rounding.round(x, direction, result);
        }

        int ofOne(int what, Datum a, int direction) {
            result.copy(a);
            if (what == NEGATE || what == SIZE) {
                result.negative = what == NEGATE && !a.negative;
                return 0;
            }
            if (a.isNaN()) {
                return passNaN(a, a, a);
            }
            if (what == ROOT) {
                int signalled = root(a);
                return signalled == TO_ROUND ? Rounding.round(x, direction, result) : signalled;
            }
            switch (what) {
                case WHOLE_PRESENT:
                    return makeWhole(direction) ? INEXACT : 0;
                case NEXT_UP:
                    next(a, false);
                    return 0;
                case NEXT_DOWN:
                    next(a, true);
                    return 0;
                case CANONICAL:
                    return 0;
                default:
                    makeWhole(what - 1);
                    return 0;
            }
        }

        int scaled(Datum a, int n, int direction) {
            result.copy(a);
            if (a.isNaN()) {
                return passNaN(a, a, a);
            }
            if (a.isInfinite()) {
                return 0;
            }
            x.take(a);
            x.exponent += n;
            x.wish = x.exponent;
            return Rounding.round(x, direction, result);
        }

        int converted(Datum a, int f, int direction) {
            result.copy(a);
            if (a.isNaN()) {
                int signalled = passNaN(a, a, a);
                result.form = f;
                result.coefficient.keepLowest(Formats.DIGITS[f] - 1);
                return signalled;
            }
            result.form = f;
            if (a.isInfinite()) {
                return 0;
            }
            x.take(a);
            return Rounding.round(x, direction, result);
        }

        int fromWhole(int f, int high, int low, int direction) {
            long value = (long) high << 32 | low & 0xffffffffL;
            long size = value < 0 ? -value : value;
            result.form = f;
            x.setZero(value < 0);
            x.coefficient.takeWord((int) (size >>> 32));
            x.coefficient.takeWord((int) size);
            x.exponent = 0;
            x.wish = 0;
            return Rounding.round(x, direction, result);
        }

        int fromText(TextReader text, int f, int direction) {
            result.form = f;
            if (text.sort != Datum.FINITE) {
                result.setSpecial(text.sort);
                result.negative = text.negative;
                if (text.digits.digits() < Formats.DIGITS[f]) {
                    result.coefficient.copy(text.digits);
                }
                return 0;
            }
            x.setZero(text.negative);
            x.coefficient.copy(text.digits);
            x.exponent = text.exponent;
            x.wish = text.exponent;
            return Rounding.round(x, direction, result);
        }

        /** The number is left in wholeNumber. */
        int toWhole(Datum a, int direction, boolean exactly) {
            wholeNumber = NO_WHOLE_NUMBER;
            if (!a.isFinite() || !a.isZero() && a.coefficient.digits() + a.exponent > LONG_DIGITS) {
                return INVALID;
            }
            work.copy(a.coefficient);
            boolean inexact = Rounding.cut(work, -a.exponent, false, direction, a.negative);
            work.shiftUp(a.exponent);
            int low = work.giveWord();
            long size = (long) work.giveWord() << 32 | low & 0xffffffffL;
            // From two to the 63 on it is below 0 here; that one alone, with a -, is still a number of 64 bits.
            if (size < 0 && !(a.negative && size == NO_WHOLE_NUMBER)) {
                return INVALID;
            }
            wholeNumber = a.negative ? -size : size;
            return exactly && inexact ? INEXACT : 0;
        }

        private int invalid() {
            result.setSpecial(Datum.QUIET);
            result.negative = false;
            return INVALID;
        }

        private int infinite(boolean negative) {
            result.setSpecial(Datum.INFINITE);
            result.negative = negative;
            return 0;
        }

        /** One of them, at least, is a NaN. */
        private int passNaN(Datum a, Datum b, Datum c) {
            boolean signalling =
                a.sort == Datum.SIGNALLING || b.sort == Datum.SIGNALLING || c.sort == Datum.SIGNALLING;
            int sought = signalling ? Datum.SIGNALLING : Datum.QUIET;
            result.copy(a.sort == sought ? a : b.sort == sought ? b : c);
            result.sort = Datum.QUIET;
            return signalling ? INVALID : 0;
        }

        private int pickBesideNaN(Datum a, Datum b) {
            if (a.sort == Datum.QUIET && !b.isNaN()) {
                result.copy(b);
                return 0;
            }
            if (b.sort == Datum.QUIET && !a.isNaN()) {
                return 0;
            }
            return passNaN(a, b, b);
        }

        private int pick(int what, Datum a, Datum b) {
            int order = what >= MIN_SIZE ? comparison.sizes(a, b) : 0;
            if (order == 0) {
                order = comparison.values(a, b);
            }
            boolean greater = what == MAX || what == MAX_SIZE;
            if (greater ? order < 0 : order > 0) {
                result.copy(b);
            }
            return 0;
        }

        private int sum(Datum a, Datum b, boolean negativeB, int direction) {
            if (a.isInfinite()) {
                return b.isInfinite() && a.negative != negativeB ? invalid() : infinite(a.negative);
            }
            if (b.isInfinite()) {
                return infinite(negativeB);
            }
            x.take(a);
            y.take(b);
            y.negative = negativeB;
            addToX(direction);
            return TO_ROUND;
        }

        /** Leaves the sum in x; y is used up. */
        private void addToX(int direction) {
            long wish = Math.min(x.exponent, y.exponent);
            boolean zeroX = x.coefficient.used() == 0;
            boolean zeroY = y.coefficient.used() == 0;
            if (zeroX && zeroY) {
                x.setZero(x.negative == y.negative ? x.negative : direction == DOWN);
            } else if (zeroX) {
                x.copy(y);
            } else if (!zeroY) {
                if (x.exponent >= y.exponent) {
                    align(x, y);
                } else {
                    align(y, x);
                }
                addAligned(direction);
            }
            x.wish = wish;
        }

        /** Gives both one exponent. A lower one that is too small for any digit kept counts as a trace: one unit. */
        private void align(Unrounded upper, Unrounded lower) {
            int digits = Formats.DIGITS[result.form];
            int spare = Math.max(0, digits + 2 - upper.coefficient.digits());
            if (lower.exponent + lower.coefficient.digits() <= upper.exponent - spare) {
                upper.coefficient.shiftUp(spare + 1);
                upper.exponent -= spare + 1;
                lower.coefficient.setOne();
                lower.exponent = upper.exponent;
            } else {
                upper.coefficient.shiftUp((int) (upper.exponent - lower.exponent));
                upper.exponent = lower.exponent;
            }
        }

        private void addAligned(int direction) {
            if (x.negative == y.negative) {
                x.coefficient.add(y.coefficient);
                return;
            }
            int order = x.coefficient.against(y.coefficient);
            if (order == 0) {
                x.setZero(direction == DOWN);
            } else if (order > 0) {
                x.coefficient.subtract(y.coefficient);
            } else {
                y.coefficient.subtract(x.coefficient);
                x.copy(y);
            }
        }

        private int product(Datum a, Datum b) {
            if (a.isZero() && b.isInfinite() || a.isInfinite() && b.isZero()) {
                return invalid();
            }
            if (a.isInfinite() || b.isInfinite()) {
                return infinite(a.negative != b.negative);
            }
            multiplyIntoX(a, b);
            return TO_ROUND;
        }

        private void multiplyIntoX(Datum a, Datum b) {
            x.setZero(a.negative != b.negative);
            x.coefficient.setProduct(a.coefficient, b.coefficient);
            x.exponent = a.exponent + b.exponent;
            x.wish = x.exponent;
        }

        private int ratio(Datum a, Datum b) {
            if (a.isZero() && b.isZero() || a.isInfinite() && b.isInfinite()) {
                return invalid();
            }
            boolean negative = a.negative != b.negative;
            if (a.isInfinite() || b.isZero()) {
                infinite(negative);
                return a.isInfinite() ? 0 : DIVISION;
            }
            x.take(a);
            x.negative = negative;
            x.wish = a.exponent - b.exponent;
            if (b.isInfinite()) {
                x.setZero(negative);
                x.wish = Formats.leastExponent(a.form);
            } else if (!a.isZero()) {
                divideXBy(b);
            }
            return TO_ROUND;
        }

        /** With three digits more than are kept: a quotient that can be kept whole is whole then. */
        private void divideXBy(Datum b) {
            int places = Formats.DIGITS[b.form] + 3 + b.coefficient.digits() - x.coefficient.digits();
            x.lowerExponent(places);
            divider.divide(x.coefficient, b.coefficient, quotient, work);
            x.coefficient.copy(quotient);
            x.exponent -= b.exponent;
            x.more = work.used() != 0;
        }

        private int remainder(Datum a, Datum b) {
            if (a.isInfinite() || b.isZero()) {
                return invalid();
            }
            if (b.isInfinite()) {
                return 0;
            }
            x.take(a);
            int places = b.exponent - a.exponent;
            // Farther up, b is more than twice as great as any a: a itself is what remains.
            if (places <= Formats.DIGITS[a.form] + 1) {
                x.wish = Math.min(a.exponent, b.exponent);
                x.exponent = x.wish;
                y.coefficient.copy(b.coefficient);
                y.coefficient.shiftUp(places);
                reduceX(-places);
            }
            return TO_ROUND;
        }

        /** By twice the divisor, y, so that what is left tells whether the quotient is odd. */
        private void reduceX(int places) {
            modulus.copy(y.coefficient);
            modulus.add(y.coefficient);
            if (places > 0) {
                setReducedPower(places);
                work.setProduct(x.coefficient, power);
                x.coefficient.copy(work);
            }
            divider.divide(x.coefficient, modulus, quotient, x.coefficient);
            boolean odd = x.coefficient.against(y.coefficient) >= 0;
            if (odd) {
                x.coefficient.subtract(y.coefficient);
            }
            work.copy(x.coefficient);
            work.add(x.coefficient);
            int order = work.against(y.coefficient);
            if (order > 0 || order == 0 && odd) {
                y.coefficient.subtract(x.coefficient);
                x.coefficient.copy(y.coefficient);
                x.negative = !x.negative;
            }
        }

        /** Ten to the places, by squares, as far as the modulus leaves it. */
        private void setReducedPower(int places) {
            power.setOne();
            for (int bit = 1 << 14; bit > 0; bit >>= 1) {
                work.setProduct(power, power);
                if ((places & bit) != 0) {
                    work.timesPlus(10, 0);
                }
                divider.divide(work, modulus, quotient, power);
            }
        }

        private int quantized(Datum a, Datum b, int direction) {
            if (a.isInfinite() || b.isInfinite()) {
                return a.isInfinite() && b.isInfinite() ? 0 : invalid();
            }
            int places = b.exponent - a.exponent;
            if (places < 0 && !a.isZero() && a.coefficient.digits() - places > Formats.DIGITS[a.form]) {
                return invalid();
            }
            boolean inexact = Rounding.cut(result.coefficient, places, false, direction, a.negative);
            result.coefficient.shiftUp(-places);
            result.exponent = b.exponent;
            return inexact ? INEXACT : 0;
        }

        /** Of the result, which is no NaN: whether its value changes. */
        private boolean makeWhole(int direction) {
            if (!result.isFinite() || result.exponent >= 0) {
                return false;
            }
            int places = -result.exponent;
            result.exponent = 0;
            return Rounding.cut(result.coefficient, places, false, direction, result.negative);
        }

        private int root(Datum a) {
            if (a.negative && !a.isZero()) {
                return invalid();
            }
            if (a.isInfinite()) {
                return 0;
            }
            x.take(a);
            x.wish = Math.floorDiv(a.exponent, 2);
            if (!a.isZero()) {
                rootOfX();
            }
            return TO_ROUND;
        }

        /** With two digits more than are kept, by Newton's steps from above. */
        private void rootOfX() {
            int places = 2 * (Formats.DIGITS[result.form] + 2) - x.coefficient.digits();
            boolean odd = (x.exponent - places & 1) != 0;
            x.lowerExponent(odd ? places + 1 : places);
            work.setPowerOfTen((x.coefficient.digits() + 1) / 2);
            for (int turn = 0; turn < 200; turn++) {
                divider.divide(x.coefficient, work, quotient, power);
                quotient.add(work);
                quotient.divideBy(2);
                if (quotient.against(work) >= 0) {
                    break;
                }
                work.copy(quotient);
            }
            power.setProduct(work, work);
            x.more = power.against(x.coefficient) != 0;
            x.coefficient.copy(work);
            x.exponent /= 2;
        }

        /** The result is NEXT UP of a, or, mirrored, NEXT DOWN. */
        private void next(Datum a, boolean mirrored) {
            int least = Formats.leastExponent(a.form);
            boolean inward = a.negative != mirrored;
            if (a.isInfinite()) {
                if (inward) {
                    result.setGreatest();
                }
            } else if (a.isZero()) {
                result.coefficient.setOne();
                result.exponent = least;
                result.negative = mirrored;
            } else {
                int room = Formats.DIGITS[a.form] - a.coefficient.digits();
                int places = Math.min(room, a.exponent - least);
                result.coefficient.shiftUp(places);
                result.exponent -= places;
                if (inward) {
                    stepInward(least);
                } else {
                    stepOutward();
                }
            }
        }

        private void stepInward(int least) {
            result.coefficient.lessOne();
            boolean shorter = result.coefficient.digits() < Formats.DIGITS[result.form];
            if (shorter && result.exponent > least) {
                result.coefficient.timesPlus(10, 9);
                result.exponent--;
            }
        }

        private void stepOutward() {
            result.coefficient.timesPlus(1, 1);
            if (result.coefficient.digits() > Formats.DIGITS[result.form]) {
                result.coefficient.shiftDown(1);
                result.exponent++;
            }
            if (result.exponent > Formats.greatestExponent(result.form)) {
                result.setSpecial(Datum.INFINITE);
            }
        }
    }

    /** The text that is typed, and what it tells. */
    private static final class TextReader {
        private static final int ROOM = 120;
        private static final int GREATEST_EXPONENT = 99999999;

        int sort = Datum.FINITE;
        boolean negative = false;
        final Natural digits = new Natural();
        int exponent = 0;
        private final char[] text = new char[ROOM];
        private int length = 0;
        private int place = 0;

        boolean append(int c) {
            if (c < 0 || c > 127 || length >= ROOM) {
                return false;
            }
            text[length] = (char) c;
            length++;
            return true;
        }

        void empty() {
            length = 0;
        }

        /** Whether the text is one that can be read; what it tells is left in the fields. */
        boolean parse() {
            place = 0;
            exponent = 0;
            digits.clear();
            sort = Datum.FINITE;
            negative = passSign();
            if (passWord("INFINITY") || passWord("INF")) {
                sort = Datum.INFINITE;
            } else if (passWord("SNAN")) {
                sort = Datum.SIGNALLING;
                passDigits();
            } else if (passWord("NAN")) {
                sort = Datum.QUIET;
                passDigits();
            } else if (!passNumber()) {
                return false;
            }
            return place == length;
        }

        private boolean isAt(char great) {
            if (place >= length) {
                return false;
            }
            char c = text[place];
            return (c >= 'a' && c <= 'z' ? (char) (c - 'a' + 'A') : c) == great;
        }

        private static boolean isDigit(char c) {
            return c >= '0' && c <= '9';
        }

        private boolean passSign() {
            boolean minus = isAt('-');
            if (minus || isAt('+')) {
                place++;
            }
            return minus;
        }

        private boolean passWord(String word) {
            int start = place;
            for (int i = 0; i < word.length(); i++) {
                if (!isAt(word.charAt(i))) {
                    place = start;
                    return false;
                }
                place++;
            }
            return true;
        }

        private int passDigits() {
            int start = place;
            while (place < length && isDigit(text[place])) {
                digits.timesPlus(10, text[place] - '0');
                place++;
            }
            return place - start;
        }

        private boolean passNumber() {
            int before = passDigits();
            int behind = 0;
            if (isAt('.')) {
                place++;
                behind = passDigits();
            }
            if (before + behind == 0) {
                return false;
            }
            if (isAt('E')) {
                place++;
                if (!passExponent()) {
                    return false;
                }
            }
            exponent -= behind;
            return true;
        }

        private boolean passExponent() {
            boolean minus = passSign();
            int start = place;
            int size = 0;
            while (place < length && isDigit(text[place])) {
                size = Math.min(size * 10 + text[place] - '0', GREATEST_EXPONENT);
                place++;
            }
            exponent = minus ? -size : size;
            return place > start;
        }
    }

    /** The output: the text of a datum. */
    private static final class TextWriter {
        private static final int ROOM = 64;

        final char[] characters = new char[ROOM];
        int length = 0;

        void put(Datum datum) {
            length = 0;
            if (datum.negative) {
                append('-');
            }
            if (datum.isInfinite()) {
                appendWord("Infinity");
            } else if (datum.isNaN()) {
                appendWord(datum.sort == Datum.SIGNALLING ? "sNaN" : "NaN");
                appendDigits(datum.coefficient, datum.coefficient.digits(), 0);
            } else {
                putFinite(datum);
            }
        }

        private void putFinite(Datum datum) {
            int count = Math.max(1, datum.coefficient.digits());
            int top = datum.exponent + count - 1;
            if (datum.exponent <= 0 && top >= -6) {
                putPlain(datum.coefficient, count, -datum.exponent);
                return;
            }
            appendDigits(datum.coefficient, count, count - 1);
            if (count > 1) {
                append('.');
                appendDigits(datum.coefficient, count - 1, 0);
            }
            append('E');
            append(top < 0 ? '-' : '+');
            appendNumber(Math.abs(top));
        }

        private void putPlain(Natural size, int count, int behind) {
            if (count > behind) {
                appendDigits(size, count, behind);
            } else {
                append('0');
            }
            if (behind > 0) {
                append('.');
                appendDigits(size, behind, 0);
            }
        }

        private void append(char c) {
            if (length < ROOM) {
                characters[length] = c;
                length++;
            }
        }

        private void appendWord(String word) {
            for (int i = 0; i < word.length(); i++) {
                append(word.charAt(i));
            }
        }

        /** The digits at the places below from, down to to; places above the highest digit have a 0. */
        private void appendDigits(Natural size, int from, int to) {
            for (int place = from - 1; place >= to; place--) {
                append((char) ('0' + size.digitAt(place)));
            }
        }

        private void appendNumber(int value) {
            int unit = 1;
            while (unit <= 1000 && value / unit >= 10) {
                unit *= 10;
            }
            while (unit > 0) {
                append((char) ('0' + value / unit % 10));
                unit /= 10;
            }
        }
    }
}

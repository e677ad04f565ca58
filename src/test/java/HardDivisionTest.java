import java.math.BigInteger;
import java.util.Random;

/**
 * Quotients, remainders and roots of coefficients with long rows of 0s and 9s, or halves of groups: the ones that a
 * division digit by digit, or group by group, guesses wrong. Each is held against whole numbers, rounded to 0.
 */
public final class HardDivisionTest extends Checks {
    private static final int CASES = 60000;
    private static final int GROUP = 9;
    private static final String[] GROUPS = {
        "000000000", "000000001", "499999999", "500000000", "500000001", "999999998", "999999999", "999999989",
        "333333333", "666666667", "111111111", "000000002"
    };

    private final Random random = new Random(20261115);
    private DecimalBits desk = new DecimalBits();
    private int calls = 0;

    public static void main(String[] args) {
        HardDivisionTest test = new HardDivisionTest();
        for (int k = 0; k < CASES; k++) {
            test.divideSomething(k % 10 == 0 ? k / 10 % 3 : 2);
        }
        end();
    }

    /** One object for many cases, but never for more than 512 calls. */
    private DecimalBits desk(int needed) {
        calls += needed;
        if (calls > 512) {
            desk = new DecimalBits();
            calls = needed;
        }
        return desk;
    }

    /** A number of at most so many digits, not 0. */
    private BigInteger someNumber(int most) {
        StringBuilder digits = new StringBuilder();
        int groups = 1 + random.nextInt(1 + most / GROUP);
        for (int k = 0; k < groups; k++) {
            int pick = random.nextInt(GROUPS.length + 2);
            digits.append(pick < GROUPS.length ? GROUPS[pick] : String.format("%09d", random.nextInt(1000000000)));
        }
        BigInteger number = new BigInteger(digits.toString());
        if (random.nextInt(3) == 0) {
            number = number.multiply(BigInteger.TEN.pow(random.nextInt(GROUP)));
        }
        number = number.add(BigInteger.valueOf(random.nextInt(3) - 1L));
        number = cutTo(number, most);
        return number.signum() <= 0 ? BigInteger.ONE : number;
    }

    private static BigInteger cutTo(BigInteger number, int digits) {
        int over = number.toString().length() - digits;
        return over > 0 ? number.divide(BigInteger.TEN.pow(over)) : number;
    }

    /** A divisor, and a dividend that lies just below, at or above so many times the divisor. */
    private void divideSomething(int f) {
        BigInteger b = someNumber(P[f]);
        BigInteger times = someNumber(P[f]);
        BigInteger a = b.multiply(times).add(BigInteger.valueOf(random.nextInt(3) - 1L));
        a = random.nextInt(4) == 0 ? times : cutTo(a, P[f]);
        a = a.signum() == 0 ? BigInteger.ONE : a;
        divide(f, a, b);
        remain(f, a, b, random.nextInt(GREATEST[f]));
        remainMuch();
        root(f, random.nextBoolean() ? a : cutTo(b.multiply(b), P[f]), random.nextInt(20) - 10);
    }

    private void divide(int f, BigInteger a, BigInteger b) {
        int places = P[f] + b.toString().length() - a.toString().length();
        BigInteger[] parts = a.multiply(BigInteger.TEN.pow(places)).divideAndRemainder(b);
        BigInteger c = cutTo(parts[0], P[f]);
        int q = parts[0].toString().length() - c.toString().length() - places;
        boolean exact = parts[1].signum() == 0 && c.multiply(BigInteger.TEN.pow(q + places)).equals(parts[0]);
        while (exact && q < 0 && c.mod(BigInteger.TEN).signum() == 0) {
            c = c.divide(BigInteger.TEN);
            q++;
        }
        String want = c + "E" + q + (exact ? " 0" : " 16");
        DecimalBits x = desk(9);
        set(x, 0, f, a + "E0");
        set(x, 1, f, b + "E0");
        x.direct(1);
        int signalled = x.two(3, 2, 0, 1);
        due("divide of " + a + " and " + b + " in format " + f, datum(x, 2) + " " + signalled, want);
    }

    /** Of a times 10 to the power. */
    private void remain(int f, BigInteger a, BigInteger b, int power) {
        BigInteger shifted = BigInteger.TEN.modPow(BigInteger.valueOf(power), b.shiftLeft(1)).multiply(a);
        BigInteger[] parts = shifted.divideAndRemainder(b);
        int order = parts[1].shiftLeft(1).compareTo(b);
        boolean up = order > 0 || order == 0 && parts[0].testBit(0);
        String want = up ? "-" + b.subtract(parts[1]) + "E0" : parts[1] + "E0";
        DecimalBits x = desk(8);
        set(x, 0, f, a + "E" + power);
        set(x, 1, f, b + "E0");
        int signalled = x.two(4, 2, 0, 1);
        due("remainder of " + a + "E" + power + " and " + b, datum(x, 2) + " " + signalled, want + " 0");
    }

    /** A remainder just below twice the divisor, with a group of zeros at its end. */
    private void remainMuch() {
        BigInteger b = someNumber(25);
        BigInteger twice = b.shiftLeft(1);
        BigInteger group = BigInteger.TEN.pow(GROUP);
        BigInteger rest = twice.subtract(BigInteger.ONE).divide(group).multiply(group);
        BigInteger a = twice.multiply(someNumber(8)).add(rest);
        if (a.signum() > 0) {
            remain(2, a, b, 0);
        }
    }

    private void root(int f, BigInteger a, int power) {
        int places = 2 * P[f] + 2 + Math.floorMod(power, 2);
        BigInteger[] parts = a.multiply(BigInteger.TEN.pow(places)).sqrtAndRemainder();
        BigInteger c = cutTo(parts[0], P[f]);
        int over = parts[0].toString().length() - c.toString().length();
        int q = Math.floorDiv(power - places, 2) + over;
        boolean exact = parts[1].signum() == 0 && c.multiply(BigInteger.TEN.pow(over)).equals(parts[0]);
        while (exact && q < Math.floorDiv(power, 2) && c.mod(BigInteger.TEN).signum() == 0) {
            c = c.divide(BigInteger.TEN);
            q++;
        }
        DecimalBits x = desk(8);
        set(x, 0, f, a + "E" + power);
        x.direct(1);
        int signalled = x.one(0, 2, 0);
        String want = c + "E" + q + (exact ? " 0" : " 16");
        due("root of " + a + "E" + power + " in format " + f, datum(x, 2) + " " + signalled, want);
    }
}

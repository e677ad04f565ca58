import java.math.BigInteger;
import java.util.ArrayList;
import java.util.List;

/** The document's ROUNDING at its edges, in all formats, directions and signs, by texts and by the operations. */
public final class RoundingEdgesTest extends Checks {
    public static void main(String[] args) {
        for (int f = 0; f < 3; f++) {
            ties(f);
            tracesAtEveryPlace(f);
            tiesOfSums(f);
            sumsFarApart(f);
            halvesBesideShortOnes(f);
            tiesOfProductsAndQuotients(f);
            tracesOfProductsAndQuotients(f);
            exactProducts(f);
            hardQuotients(f);
            lastDigitsThatCarry(f);
            belowAPowerOfTen(f);
            exactWithTheWish(f);
            exactQuotientsWithTheWish(f);
            exactZeros(f);
            exactAtTheEdges(f);
            overflowOfExactOnes(f);
            overflowByRounding(f);
            overflowOfSums(f);
            overflowOfOthers(f);
            underflowToTheLeast(f);
            lessAheadOfRounding(f);
            underflowOfOperations(f);
            roundedOnce(f);
            fusedOnce(f);
            roots(f);
            hardRoots(f);
        }
        for (int f = 0; f < 3; f++) {
            for (int g = 0; g < f; g++) {
                narrower(f, g);
                wider(g, f);
            }
        }
        numbers();
        end();
    }

    /** P digits: 1, zeros and the last one. */
    private static String stem(int f, int last) {
        return "1" + "0".repeat(P[f] - 2) + last;
    }

    /** What is due in the five directions: these numbers, and what is signalled. */
    private static String[] all(String signals, String... numbers) {
        String[] wants = new String[5];
        for (int m = 0; m < 5; m++) {
            wants[m] = numbers[numbers.length == 1 ? 0 : m] + " " + signals;
        }
        return wants;
    }

    /** INEXACT ones of P digits with q 0, with these last digits. */
    private static String[] ending(int f, int... last) {
        String[] wants = new String[5];
        for (int m = 0; m < 5; m++) {
            wants[m] = stem(f, last[m]) + "E0 16";
        }
        return wants;
    }

    /** So many of the least number, with UNDERFLOW. */
    private static String[] ofLeast(int f, int... count) {
        String[] wants = new String[5];
        for (int m = 0; m < 5; m++) {
            wants[m] = count[m] + "E" + -BIAS[f] + " 24";
        }
        return wants;
    }

    /** With OVERFLOW in all directions. */
    private static String[] tooGreat(int f) {
        return all("20", "Infinity", greatest(f), "Infinity", greatest(f), "Infinity");
    }

    /** Above the greatest number by half of its last digit or more. */
    private static String[] justTooGreat(int f) {
        String stays = greatest(f) + " 16";
        return new String[] {"Infinity 20", stays, "Infinity 20", stays, "Infinity 20"};
    }

    /** Above the greatest number by less. */
    private static String[] hardlyTooGreat(int f) {
        String stays = greatest(f) + " 16";
        return new String[] {stays, stays, "Infinity 20", stays, stays};
    }

    /** 0 to the nearest, a tie to the even last digit; 1 to 0; 2 up; 3 down; 4 to the nearest, a tie away from 0. */
    private static void ties(int f) {
        readInAll(f, stem(f, 2) + ".5", ending(f, 2, 2, 3, 2, 3));
        readInAll(f, stem(f, 3) + ".5", ending(f, 4, 3, 4, 3, 4));
        readInAll(f, stem(f, 2) + ".50000000000000000000", ending(f, 2, 2, 3, 2, 3));
        readInAll(f, stem(f, 2) + ".4", ending(f, 2, 2, 3, 2, 2));
        readInAll(f, stem(f, 3) + ".4" + nines(40), ending(f, 3, 3, 4, 3, 3));
        readInAll(f, stem(f, 2) + ".5" + "0".repeat(40) + "1", ending(f, 3, 2, 3, 2, 3));
        readInAll(f, stem(f, 2) + ".6", ending(f, 3, 2, 3, 2, 3));
        readInAll(f, stem(f, 2) + ".0" + "0".repeat(60) + "1", ending(f, 2, 2, 3, 2, 2));
        readInAll(f, stem(f, 2) + "." + nines(60), ending(f, 3, 2, 3, 2, 3));
        readInAll(f, stem(f, 3) + "." + nines(60), ending(f, 4, 3, 4, 3, 4));
    }

    /** What lies below the last digit kept counts, however far below. */
    private static void tracesAtEveryPlace(int f) {
        for (int n = 0; n < 80; n++) {
            readInAll(f, stem(f, 2) + "." + "0".repeat(n) + "1", ending(f, 2, 2, 3, 2, 2));
            readInAll(f, stem(f, 2) + ".5" + "0".repeat(n) + "1", ending(f, 3, 2, 3, 2, 3));
            readInAll(f, stem(f, 3) + ".4" + nines(n), ending(f, 3, 3, 4, 3, 3));
            readInAll(f, stem(f, 2) + ".5" + "0".repeat(n), ending(f, 2, 2, 3, 2, 3));
        }
    }

    private static void tiesOfSums(int f) {
        String even = stem(f, 2) + "E0";
        String odd = stem(f, 3) + "E0";
        String belowHalf = "4" + nines(P[f] - 1) + "E" + -P[f];
        String aboveHalf = "5" + stem(f, 1).substring(1) + "E" + -P[f];
        addInAll(f, even, "5E-1", ending(f, 2, 2, 3, 2, 3));
        addInAll(f, odd, "5E-1", ending(f, 4, 3, 4, 3, 4));
        addInAll(f, odd, belowHalf, ending(f, 3, 3, 4, 3, 3));
        addInAll(f, even, aboveHalf, ending(f, 3, 2, 3, 2, 3));
        addInAll(f, even, least(f), ending(f, 2, 2, 3, 2, 2));
        addInAll(f, least(f), even, ending(f, 2, 2, 3, 2, 2));
        addInAll(f, odd, "-" + least(f), ending(f, 3, 2, 3, 2, 3));
        addInAll(f, "-" + least(f), odd, ending(f, 3, 2, 3, 2, 3));
        addInAll(f, odd, "-5E-1", ending(f, 2, 2, 3, 2, 3));
        addInAll(f, stem(f, 4) + "E0", "-5E-1", ending(f, 4, 3, 4, 3, 4));
        addInAll(f, stem(f, 4) + "E0", "-" + belowHalf, ending(f, 4, 3, 4, 3, 4));
        addInAll(f, odd, "-" + aboveHalf, ending(f, 2, 2, 3, 2, 2));
    }

    /** A number of P digits and one of P digits below it, nearer and farther. */
    private static void sumsFarApart(int f) {
        String[] less = ending(f, 2, 2, 3, 2, 2);
        String[] more = ending(f, 3, 2, 3, 2, 3);
        for (int gap = 1; gap <= P[f] + 8; gap++) {
            String end = "E" + (-P[f] - gap);
            addInAll(f, stem(f, 2) + "E0", nines(P[f]) + end, less);
            addInAll(f, nines(P[f]) + end, stem(f, 2) + "E0", less);
            addInAll(f, stem(f, 3) + "E0", "-" + nines(P[f]) + end, more);
            addInAll(f, stem(f, 2) + "E0", "1" + end, less);
        }
        addInAll(f, stem(f, 2) + "E0", nines(P[f]) + "E" + -P[f], more);
        addInAll(f, stem(f, 2) + "E0", nines(P[f]) + "E" + -BIAS[f], less);
        addInAll(f, stem(f, 3) + "E0", "-" + nines(P[f]) + "E" + -BIAS[f], more);
        addInAll(f, stem(f, 2) + "E0", "5" + "0".repeat(P[f] - 1) + "E" + -P[f], ending(f, 2, 2, 3, 2, 3));
    }

    /** Fewer digits than P above, and half of the last place below, with few digits and with P of them. */
    private static void halvesBesideShortOnes(int f) {
        String upper = "25E" + (P[f] - 2);
        String exactly = "25" + "0".repeat(P[f] - 2) + "E0";
        String above = "25" + "0".repeat(P[f] - 3) + "1E0";
        String below = "24" + nines(P[f] - 2) + "E0";
        String[] more = all("16", exactly, exactly, above, exactly, above);
        String[] less = all("16", exactly, below, exactly, below, exactly);
        for (String half : new String[] {"5E-1", "5" + "0".repeat(P[f] - 1) + "E" + -P[f]}) {
            addInAll(f, upper, half, more);
            addInAll(f, half, upper, more);
            addInAll(f, upper, "-" + half, less);
            addInAll(f, "-" + half, upper, less);
            for (int m = 0; m < 5; m++) {
                fused(f, m, "1E0", half, upper, more[m]);
                fused(f, m, "-1E0", half, upper, less[m]);
                fused(f, m, "1E0", upper, half, more[m]);
                fused(f, m, "1E0", upper, "-" + half, less[m]);
            }
        }
    }

    private static void tiesOfProductsAndQuotients(int f) {
        String stem = "15" + "0".repeat(P[f] - 3);
        signedInAll(2, f, stem(f, 1) + "E0", "15E-1",
            all("16", stem + "2E0", stem + "1E0", stem + "2E0", stem + "1E0", stem + "2E0"));
        signedInAll(2, f, stem(f, 3) + "E0", "15E-1",
            all("16", stem + "4E0", stem + "4E0", stem + "5E0", stem + "4E0", stem + "5E0"));
        String twice = "2" + "0".repeat(P[f] - 2);
        signedInAll(3, f, twice + "5E0", "2E0", ending(f, 2, 2, 3, 2, 3));
        signedInAll(3, f, twice + "7E0", "2E0", ending(f, 4, 3, 4, 3, 4));
    }

    private static void tracesOfProductsAndQuotients(int f) {
        String one = stem(f, 1) + "E0";
        String end = "E" + (P[f] - 1);
        String two = stem(f, 2) + end;
        signedInAll(2, f, one, one, all("16", two, two, stem(f, 3) + end, two, two));
        String nearly = nines(P[f] - 1) + "8E" + P[f];
        signedInAll(2, f, nines(P[f]) + "E0", nines(P[f]) + "E0",
            all("16", nearly, nearly, nines(P[f]) + "E" + P[f], nearly, nearly));
        String third = "3".repeat(P[f] - 1);
        String twoThirds = "6".repeat(P[f] - 1);
        String at = "E" + -P[f];
        signedInAll(3, f, "1E0", "3E0",
            all("16", third + "3" + at, third + "3" + at, third + "4" + at, third + "3" + at, third + "3" + at));
        signedInAll(3, f, "2E0", "3E0", all("16", twoThirds + "7" + at, twoThirds + "6" + at, twoThirds + "7" + at,
            twoThirds + "6" + at, twoThirds + "7" + at));
    }

    /** Nines by nines have carries everywhere; what they make is divided again. */
    private static void exactProducts(int f) {
        for (int i = 1; i < P[f]; i++) {
            for (int k = 1; i + k <= P[f]; k++) {
                String a = nines(i) + "E0";
                String b = nines(k) + "E-3";
                BigInteger product = new BigInteger(nines(i)).multiply(new BigInteger(nines(k)));
                two(2, f, 0, a, b, product + "E-3 0");
                two(3, f, 0, product + "E-3", a, b + " 0");
                two(4, f, 0, product + "E-3", b, "0E-3 0");
                fused(f, 0, a, b, "1E-3", product.add(BigInteger.ONE) + "E-3 0");
            }
        }
    }

    /** Quotients that lie above or below a number, or half-way between two, by as little as can be. */
    private static void hardQuotients(int f) {
        BigInteger shift = BigInteger.TEN.pow(P[f]);
        int found = 0;
        for (long below = 1; below < 400; below += 2) {
            BigInteger b = shift.subtract(BigInteger.valueOf(below));
            if (!b.gcd(BigInteger.TEN).equals(BigInteger.ONE)) {
                continue;
            }
            BigInteger half = b.shiftRight(1);
            BigInteger[] rests = {BigInteger.ONE, half, half.add(BigInteger.ONE), b.subtract(BigInteger.ONE)};
            for (int k = 0; k < rests.length; k++) {
                BigInteger a = shift.modInverse(b).multiply(rests[k]).mod(b);
                BigInteger c = a.multiply(shift).divide(b);
                if (c.toString().length() == P[f]) {
                    hardQuotient(f, a + "E0", b + "E0", c, k >= 2);
                    found++;
                }
            }
        }
        due("hard quotients were found", found > 100, true);
    }

    private static void hardQuotient(int f, String a, String b, BigInteger c, boolean nearerToTheUpper) {
        String down = c + "E" + -P[f];
        BigInteger upper = c.add(BigInteger.ONE);
        boolean carries = upper.toString().length() > P[f];
        String up = carries ? upper.divide(BigInteger.TEN) + "E" + (1 - P[f]) : upper + "E" + -P[f];
        String near = nearerToTheUpper ? up : down;
        signedInAll(3, f, a, b, all("16", near, down, up, down, near));
    }

    /** The least q for which c, as it is rounded, has at most P digits. */
    private static void lastDigitsThatCarry(int f) {
        String stays = nines(P[f]) + "E0";
        String grows = ten(P[f] - 1) + "E1";
        String[] half = all("16", grows, stays, grows, stays, grows);
        String[] less = all("16", stays, stays, grows, stays, stays);
        readInAll(f, nines(P[f]) + ".5", half);
        readInAll(f, nines(P[f]) + "." + nines(40), half);
        readInAll(f, nines(P[f]) + ".4" + nines(40), less);
        addInAll(f, stays, "5E-1", half);
        addInAll(f, stays, "9E-1", half);
        addInAll(f, stays, "4E-1", less);
        addInAll(f, stays, least(f), less);
        addInAll(f, stays, "1E0", all("0", grows));
    }

    private static void belowAPowerOfTen(int f) {
        String power = ten(P[f] - 1) + "E0";
        String below = nines(P[f]) + "E-1";
        String[] hardly = all("16", power, below, power, below, power);
        addInAll(f, power, "-" + least(f), hardly);
        addInAll(f, power, "-4E-2", hardly);
        addInAll(f, power, "-5E-2", hardly);
        addInAll(f, power, "-6E-2", all("16", below, below, power, below, below));
        addInAll(f, power, "-1E-1", all("0", below));
        for (int m = 0; m < 5; m++) {
            fused(f, m, least(f), "-" + least(f), power, hardly[m]);
            fused(f, m, "-5E-1", "1E-1", power, hardly[m]);
            fused(f, m, "-6E-1", "1E-1", power, m == 2 ? power + " 16" : below + " 16");
        }
        power = ten(P[f] - 1) + "E" + (2 - P[f]);
        below = nines(P[f]) + "E" + (1 - P[f]);
        addInAll(f, "1E1", "-" + least(f), all("16", power, below, power, below, power));
        addInAll(f, "-" + least(f), "1E1", all("16", power, below, power, below, power));
    }

    /** If x is c times 10 to the q for some c and q of the format: the one of these with q nearest to w. */
    private static void exactWithTheWish(int f) {
        String widest = ten(P[f] - 1) + "E" + (1 - P[f]);
        String upper = ten(P[f] - 1) + "E1";
        readInAll(f, "1." + "0".repeat(P[f] - 1), all("0", widest));
        readInAll(f, "1." + "0".repeat(P[f]), all("0", widest));
        readInAll(f, "1." + "0".repeat(80), all("0", widest));
        readInAll(f, ten(P[f] - 1), all("0", ten(P[f] - 1) + "E0"));
        readInAll(f, ten(P[f]), all("0", upper));
        readInAll(f, ten(P[f] + 3), all("0", ten(P[f] - 1) + "E4"));
        readInAll(f, "12" + "0".repeat(P[f] - 1), all("0", "12" + "0".repeat(P[f] - 2) + "E1"));
        readInAll(f, nines(P[f]) + "000", all("0", nines(P[f]) + "E3"));
        readInAll(f, "1200E5", all("0", "1200E5"));
        addInAll(f, "1E" + P[f], "0E0", all("0", upper));
        addInAll(f, "0E0", "1E" + P[f], all("0", upper));
        addInAll(f, "1E0", "0E" + -BIAS[f], all("0", widest));
        addInAll(f, "0E5", "1E0", all("0", "1E0"));
        addInAll(f, "0E0", "1E5", all("0", "100000E0"));
        addInAll(f, "12E1", "30E-1", all("0", "1230E-1"));
        addInAll(f, "12E0", "-2E0", all("0", "10E0"));
        addInAll(f, "1E" + GREATEST[f], "0E" + -BIAS[f],
            all("0", ten(P[f] - 1) + "E" + (GREATEST[f] - P[f] + 1)));
        signedInAll(2, f, "10E0", "10E-3", all("0", "100E-3"));
        signedInAll(2, f, "5" + "0".repeat(P[f] - 1) + "E0", "2E0", all("0", upper));
        signedInAll(2, f, "1E" + GREATEST[f], "1E" + (P[f] - 1), all("0", ten(P[f] - 1) + "E" + GREATEST[f]));
        signedInAll(2, f, "1E" + GREATEST[f], "1E1", all("0", "10E" + GREATEST[f]));
        signedInAll(2, f, "10E" + -BIAS[f], "1E-1", all("0", least(f)));
        signedInAll(2, f, "100E" + -BIAS[f], "30E-3", all("0", "3E" + -BIAS[f]));
    }

    private static void exactQuotientsWithTheWish(int f) {
        signedInAll(3, f, "8E0", "2E0", all("0", "4E0"));
        signedInAll(3, f, "1E0", "4E0", all("0", "25E-2"));
        signedInAll(3, f, "80E0", "2E-1", all("0", "40E1"));
        signedInAll(3, f, "1E0", "1E-3", all("0", "1E3"));
        signedInAll(3, f, "10E0", "5E2", all("0", "2E-2"));
        signedInAll(3, f, "1E5", "8E0", all("0", "125E2"));
        signedInAll(3, f, "12E0", "12E5", all("0", "1E-5"));
        signedInAll(3, f, "2400E-3", "200E-2", all("0", "12E-1"));
        signedInAll(3, f, "24E0", "12E-1", all("0", "2E1"));
        signedInAll(3, f, nines(P[f]) + "E0", nines(P[f]) + "E0", all("0", "1E0"));
        signedInAll(3, f, nines(P[f]) + "E0", "1E0", all("0", nines(P[f]) + "E0"));
        signedInAll(3, f, "1E" + GREATEST[f], "1E" + (1 - P[f]), all("0", ten(P[f] - 1) + "E" + GREATEST[f]));
        signedInAll(3, f, "10E" + -BIAS[f], "1E1", all("0", least(f)));
        signedInAll(3, f, "20E" + -BIAS[f], "10E0", all("0", "2E" + -BIAS[f]));
    }

    /** Of x 0: the zero with q nearest to w. */
    private static void exactZeros(int f) {
        String highest = "0E" + GREATEST[f];
        String lowest = "0E" + -BIAS[f];
        readInAll(f, "0E" + (GREATEST[f] + 1), all("0", highest));
        readInAll(f, "0E" + (-BIAS[f] - 1), all("0", lowest));
        readInAll(f, "0." + "0".repeat(50) + "E" + (GREATEST[f] + 50), all("0", highest));
        readInAll(f, "0." + "0".repeat(50) + "E" + (50 - BIAS[f]), all("0", lowest));
        readInAll(f, "0E99999999", all("0", highest));
        readInAll(f, "0E-99999999", all("0", lowest));
        signedInAll(2, f, highest, highest, all("0", highest));
        signedInAll(2, f, lowest, lowest, all("0", lowest));
        signedInAll(2, f, highest, "7E1", all("0", highest));
        signedInAll(2, f, "7E-1", lowest, all("0", lowest));
        signedInAll(2, f, "0E2", "7E3", all("0", "0E5"));
        signedInAll(3, f, highest, "7E-1", all("0", highest));
        signedInAll(3, f, lowest, "7E1", all("0", lowest));
        signedInAll(3, f, "0E2", "7E3", all("0", "0E-1"));
        scaleInAll(f, "0E0", GREATEST[f], all("0", highest));
        scaleInAll(f, "0E0", GREATEST[f] + 1, all("0", highest));
        scaleInAll(f, "0E0", -BIAS[f], all("0", lowest));
        scaleInAll(f, "0E0", -BIAS[f] - 1, all("0", lowest));
        scaleInAll(f, highest, Integer.MAX_VALUE, all("0", highest));
        scaleInAll(f, lowest, Integer.MIN_VALUE, all("0", lowest));
        scaleInAll(f, highest, Integer.MIN_VALUE, all("0", lowest));
    }

    private static void exactAtTheEdges(int f) {
        int low = -BIAS[f];
        int high = GREATEST[f];
        readInAll(f, "1E" + (high + 1), all("0", "10E" + high));
        readInAll(f, "1E" + EMAX[f], all("0", ten(P[f] - 1) + "E" + high));
        readInAll(f, nines(P[f]) + "0E" + (high - 1), all("0", greatest(f)));
        readInAll(f, "10E" + (low - 1), all("0", least(f)));
        readInAll(f, ten(100) + "E" + (low - 100), all("0", least(f)));
        readInAll(f, "0." + "0".repeat(50) + "1E" + (low + 51), all("0", least(f)));
        readInAll(f, nines(P[f] - 1) + "E" + low, all("0", nines(P[f] - 1) + "E" + low));
        readInAll(f, ten(P[f] - 1) + "E" + low, all("0", ten(P[f] - 1) + "E" + low));
        scaleInAll(f, "1E0", EMAX[f], all("0", ten(P[f] - 1) + "E" + high));
        scaleInAll(f, "1E0", -BIAS[f], all("0", least(f)));
        scaleInAll(f, "10E0", -BIAS[f] - 1, all("0", least(f)));
        scaleInAll(f, least(f), BIAS[f] + EMAX[f], all("0", ten(P[f] - 1) + "E" + high));
        scaleInAll(f, greatest(f), -high, all("0", nines(P[f]) + "E0"));
        scaleInAll(f, greatest(f), -high - BIAS[f], all("0", nines(P[f]) + "E" + low));
    }

    /** If it would have q above the greatest one (also of an exact x): OVERFLOW and INEXACT. */
    private static void overflowOfExactOnes(int f) {
        readInAll(f, "1E" + (EMAX[f] + 1), tooGreat(f));
        readInAll(f, nines(P[f]) + "E" + (GREATEST[f] + 1), tooGreat(f));
        readInAll(f, "1E99999999", tooGreat(f));
        readInAll(f, "1E" + nines(50), tooGreat(f));
        scaleInAll(f, "1E0", EMAX[f] + 1, tooGreat(f));
        scaleInAll(f, greatest(f), 1, tooGreat(f));
        scaleInAll(f, "1E" + GREATEST[f], Integer.MAX_VALUE, tooGreat(f));
        scaleInAll(f, least(f), Integer.MAX_VALUE, tooGreat(f));
    }

    private static void overflowByRounding(int f) {
        String end = "E" + GREATEST[f];
        readInAll(f, nines(P[f]) + ".5" + end, justTooGreat(f));
        readInAll(f, nines(P[f]) + "." + nines(40) + end, justTooGreat(f));
        readInAll(f, nines(P[f]) + ".4" + nines(40) + end, hardlyTooGreat(f));
        readInAll(f, nines(P[f]) + ".0" + "0".repeat(40) + "1" + end, hardlyTooGreat(f));
        readInAll(f, "1." + "0".repeat(40) + "1E" + (EMAX[f] + 1), tooGreat(f));
        readInAll(f, nines(P[f]) + "5E" + GREATEST[f], tooGreat(f));
    }

    private static void overflowOfSums(int f) {
        String lower = "E" + (GREATEST[f] - 1);
        addInAll(f, greatest(f), greatest(f), tooGreat(f));
        addInAll(f, greatest(f), "1E" + GREATEST[f], tooGreat(f));
        addInAll(f, greatest(f), "9" + lower, justTooGreat(f));
        addInAll(f, greatest(f), "5" + lower, justTooGreat(f));
        addInAll(f, greatest(f), "4" + lower, hardlyTooGreat(f));
        addInAll(f, greatest(f), least(f), hardlyTooGreat(f));
        addInAll(f, least(f), greatest(f), hardlyTooGreat(f));
        addInAll(f, greatest(f), "0E" + -BIAS[f], all("0", greatest(f)));
        String less = nines(P[f] - 1) + "8E" + GREATEST[f];
        addInAll(f, greatest(f), "-" + least(f), all("16", greatest(f), less, greatest(f), less, greatest(f)));
    }

    private static void overflowOfOthers(int f) {
        signedInAll(2, f, greatest(f), greatest(f), tooGreat(f));
        signedInAll(2, f, "1E" + GREATEST[f], "1E" + P[f], tooGreat(f));
        signedInAll(3, f, greatest(f), least(f), tooGreat(f));
        signedInAll(3, f, "1E" + GREATEST[f], "1E" + -P[f], tooGreat(f));
        for (int m = 0; m < 5; m++) {
            fused(f, m, greatest(f), greatest(f), greatest(f), tooGreat(f)[m]);
            fused(f, m, greatest(f), greatest(f), "-" + greatest(f), tooGreat(f)[m]);
            fused(f, m, greatest(f), "1E0", "5E" + (GREATEST[f] - 1), justTooGreat(f)[m]);
            fused(f, m, greatest(f), "1E0", least(f), hardlyTooGreat(f)[m]);
            fused(f, m, least(f), least(f), greatest(f), hardlyTooGreat(f)[m]);
        }
    }

    /** The least q of the format, with x's sign (also if c becomes 0). */
    private static void underflowToTheLeast(int f) {
        String end = "E" + (-BIAS[f] - 1);
        readInAll(f, "1" + end, ofLeast(f, 0, 0, 1, 0, 0));
        readInAll(f, "4" + end, ofLeast(f, 0, 0, 1, 0, 0));
        readInAll(f, "4." + nines(50) + end, ofLeast(f, 0, 0, 1, 0, 0));
        readInAll(f, "5" + end, ofLeast(f, 0, 0, 1, 0, 1));
        readInAll(f, "5." + "0".repeat(50) + "1" + end, ofLeast(f, 1, 0, 1, 0, 1));
        readInAll(f, "9" + end, ofLeast(f, 1, 0, 1, 0, 1));
        readInAll(f, nines(80) + "E" + (-BIAS[f] - 80), ofLeast(f, 1, 0, 1, 0, 1));
        readInAll(f, "5E" + (-BIAS[f] - 2), ofLeast(f, 0, 0, 1, 0, 0));
        readInAll(f, "9E-99999999", ofLeast(f, 0, 0, 1, 0, 0));
        readInAll(f, "9E-" + nines(50), ofLeast(f, 0, 0, 1, 0, 0));
        readInAll(f, "14" + end, ofLeast(f, 1, 1, 2, 1, 1));
        readInAll(f, "15" + end, ofLeast(f, 2, 1, 2, 1, 2));
        readInAll(f, "25" + end, ofLeast(f, 2, 2, 3, 2, 3));
        readInAll(f, "995" + end, ofLeast(f, 100, 99, 100, 99, 100));
    }

    /** UNDERFLOW if x, ahead of rounding, is less than 10 to the (1 - EMAX) in size. */
    private static void lessAheadOfRounding(int f) {
        String end = "E" + -BIAS[f];
        String edge = ten(P[f] - 1) + end;
        String below = nines(P[f] - 1) + end;
        String above = stem(f, 1) + end;
        readInAll(f, nines(P[f] - 1) + ".5" + end, all("24", edge, below, edge, below, edge));
        readInAll(f, nines(P[f] - 1) + "." + nines(60) + end, all("24", edge, below, edge, below, edge));
        readInAll(f, nines(P[f] - 1) + ".4" + end, all("24", below, below, edge, below, below));
        readInAll(f, ten(P[f] - 1) + end, all("0", edge));
        readInAll(f, "1E" + (1 - EMAX[f]), all("0", "1E" + (1 - EMAX[f])));
        readInAll(f, ten(P[f] - 1) + ".5" + end, all("16", edge, edge, above, edge, above));
        readInAll(f, ten(P[f] - 1) + "." + "0".repeat(60) + "1" + end, all("16", edge, edge, above, edge, edge));
        String[] hardlyLess = all("24", edge, below, edge, below, edge);
        signedInAll(2, f, edge, nines(P[f]) + "E" + -P[f], hardlyLess);
        for (int m = 0; m < 5; m++) {
            fused(f, m, least(f), "-" + least(f), edge, hardlyLess[m]);
            fused(f, m, "-5E-1", least(f), edge, hardlyLess[m]);
            fused(f, m, least(f), least(f), edge, m == 2 ? above + " 16" : edge + " 16");
        }
        signedInAll(2, f, edge, stem(f, 1) + "E" + (1 - P[f]), all("0", above));
        signedInAll(2, f, above, stem(f, 1) + "E" + (1 - P[f]), all("16", stem(f, 2) + end, stem(f, 2) + end,
            stem(f, 3) + end, stem(f, 2) + end, stem(f, 2) + end));
    }

    private static void underflowOfOperations(int f) {
        String end = "E" + -BIAS[f];
        signedInAll(2, f, least(f), "5E-1", ofLeast(f, 0, 0, 1, 0, 1));
        signedInAll(2, f, least(f), least(f), ofLeast(f, 0, 0, 1, 0, 0));
        signedInAll(2, f, "15" + end, "1E-1", ofLeast(f, 2, 1, 2, 1, 2));
        signedInAll(2, f, "25" + end, "1E-1", ofLeast(f, 2, 2, 3, 2, 3));
        signedInAll(3, f, least(f), "2E0", ofLeast(f, 0, 0, 1, 0, 1));
        signedInAll(3, f, least(f), "3E0", ofLeast(f, 0, 0, 1, 0, 0));
        signedInAll(3, f, "2" + end, "3E0", ofLeast(f, 1, 0, 1, 0, 1));
        signedInAll(3, f, "3" + end, "2E0", ofLeast(f, 2, 1, 2, 1, 2));
        signedInAll(3, f, least(f), greatest(f), ofLeast(f, 0, 0, 1, 0, 0));
        scaleInAll(f, least(f), -1, ofLeast(f, 0, 0, 1, 0, 0));
        scaleInAll(f, "15E0", -BIAS[f] - 1, ofLeast(f, 2, 1, 2, 1, 2));
        scaleInAll(f, "5E0", -BIAS[f] - 1, ofLeast(f, 0, 0, 1, 0, 1));
        scaleInAll(f, least(f), Integer.MIN_VALUE, ofLeast(f, 0, 0, 1, 0, 0));
        scaleInAll(f, greatest(f), Integer.MIN_VALUE, ofLeast(f, 0, 0, 1, 0, 0));
        addInAll(f, "3" + end, "-" + least(f), all("0", "2" + end));
        for (int m = 0; m < 5; m++) {
            fused(f, m, least(f), "5E-1", least(f), ofLeast(f, 2, 1, 2, 1, 2)[m]);
            fused(f, m, least(f), "-5E-1", least(f), ofLeast(f, 0, 0, 1, 0, 1)[m]);
            fused(f, m, least(f), least(f), "0E0", ofLeast(f, 0, 0, 1, 0, 0)[m]);
            fused(f, m, least(f), "-" + least(f), least(f), ofLeast(f, 1, 0, 1, 0, 1)[m]);
        }
    }

    /** Rounding to P digits first, and to the least q then, would answer otherwise. */
    private static void roundedOnce(int f) {
        readInAll(f, "1.4" + nines(60) + "E" + -BIAS[f], ofLeast(f, 1, 1, 2, 1, 1));
        readInAll(f, "2.5" + "0".repeat(60) + "1E" + -BIAS[f], ofLeast(f, 3, 2, 3, 2, 3));
        signedInAll(2, f, nines(P[f]) + "E" + (-P[f] - 1), "15E" + -BIAS[f], ofLeast(f, 1, 1, 2, 1, 1));
        signedInAll(3, f, "5E" + -BIAS[f], stem(f, 1).replaceFirst("1", "2") + "E" + (1 - P[f]),
            ofLeast(f, 2, 2, 3, 2, 2));
        String end = nines(P[f]) + ".4" + nines(30);
        readInAll(f, end, all("16", nines(P[f]) + "E0", nines(P[f]) + "E0", ten(P[f] - 1) + "E1",
            nines(P[f]) + "E0", nines(P[f]) + "E0"));
    }

    /** FUSED: a b + c rounded once. */
    private static void fusedOnce(int f) {
        String one = stem(f, 1) + "E0";
        String stem = "15" + "0".repeat(P[f] - 3);
        String[] below = all("16", stem + "1E0", stem + "1E0", stem + "2E0", stem + "1E0", stem + "1E0");
        String[] above = all("16", stem + "5E0", stem + "4E0", stem + "5E0", stem + "4E0", stem + "5E0");
        String[] tie = all("16", stem + "4E0", stem + "4E0", stem + "5E0", stem + "4E0", stem + "5E0");
        for (int m = 0; m < 5; m++) {
            fused(f, m, one, one, "-" + stem(f, 2) + "E" + (P[f] - 1), "1E0 0");
            fused(f, m, one, "15E-1", "-" + least(f), below[m]);
            fused(f, m, stem(f, 3) + "E0", "15E-1", least(f), above[m]);
            fused(f, m, stem(f, 3) + "E0", "15E-1", "0E0", tie[m]);
            fused(f, m, "1E" + GREATEST[f], "1E" + P[f], "-" + greatest(f), "1E" + GREATEST[f] + " 0");
            fused(f, m, nines(P[f]) + "E0", nines(P[f]) + "E0", "-" + nines(P[f] - 1) + "8E" + P[f], "1E0 0");
            fused(f, m, stem(f, 2) + "E0", "1E0", "5E-1", ending(f, 2, 2, 3, 2, 3)[m]);
            fused(f, m, least(f), least(f), stem(f, 2) + "E0", ending(f, 2, 2, 3, 2, 2)[m]);
            fused(f, m, least(f), "-" + least(f), stem(f, 3) + "E0", ending(f, 3, 2, 3, 2, 3)[m]);
        }
    }

    private static void root(int f, String a, String... wants) {
        for (int m = 0; m < 5; m++) {
            one(0, f, m, a, wants[m]);
        }
    }

    /** Wish q / 2, the whole number not above it; roots that lie just below half of a last digit. */
    private static void roots(int f) {
        String[] two = {"141421", "141421356237309", "141421356237309504880168872420969"};
        String[] down = {"3", "5", "8"};
        String[] up = {"4", "6", "9"};
        String end = "E" + (1 - P[f]);
        String low = two[f] + down[f] + end;
        String high = two[f] + up[f] + end;
        root(f, "2E0", all("16", f == 0 ? high : low, low, high, low, f == 0 ? high : low));
        int q = -((P[f] + 1) / 2);
        String under = nines(P[f]) + "E" + q;
        root(f, nines(P[f]) + (f == 0 ? "E-1" : "E0"),
            all("16", under, under, ten(P[f] - 1) + "E" + (q + 1), under, under));
        String whole = ten(P[f] - 1) + end;
        root(f, stem(f, 1) + end, all("16", whole, whole, stem(f, 1) + end, whole, whole));
        String[][] exact = {
            {"4E0", "2E0"}, {"100E0", "10E0"}, {"1E2", "1E1"}, {"10000E-2", "100E-1"}, {"10E-1", "10E-1"},
            {"10E1", "10E0"}, {"1000E-3", "100E-2"}, {"1E-2", "1E-1"}, {"400E-2", "20E-1"}, {"90E3", "30E1"},
            {"0E0", "0E0"}, {"-0E-3", "-0E-2"}, {"0E-1", "0E-1"}, {"0E3", "0E1"}, {"-0E1", "-0E0"},
            {"0E" + -BIAS[f], "0E" + Math.floorDiv(-BIAS[f], 2)}, {"-0E" + GREATEST[f], "-0E" + GREATEST[f] / 2}
        };
        for (String[] pair : exact) {
            root(f, pair[0], all("0", pair[1]));
        }
        String square = nines(P[f] / 2);
        root(f, square.substring(1) + "8" + "0".repeat(P[f] / 2 - 1) + "1E0", all("0", square + "E0"));
    }

    /** All numbers below ten to the count whose square, less n, has so many zeros at its end, found digit by digit. */
    private static List<BigInteger> rootsOf(BigInteger n, int count) {
        List<BigInteger> found = List.of(BigInteger.ZERO);
        for (int place = 0; place < count; place++) {
            BigInteger unit = BigInteger.TEN.pow(place);
            BigInteger modulus = unit.multiply(BigInteger.TEN);
            List<BigInteger> longer = new ArrayList<>();
            for (BigInteger c : found) {
                for (int d = 0; d <= 9; d++) {
                    BigInteger next = c.add(unit.multiply(BigInteger.valueOf(d)));
                    if (next.multiply(next).subtract(n).mod(modulus).signum() == 0) {
                        longer.add(next);
                    }
                }
            }
            found = longer;
        }
        return found;
    }

    /** Roots that lie above or below a number by as little as can be: c times c, and 31 more, or 1 less. */
    private static void hardRoots(int f) {
        int tried = 0;
        for (int more : new int[] {31, 39, -1, -9}) {
            for (BigInteger c : rootsOf(BigInteger.valueOf(-more), P[f])) {
                BigInteger square = c.multiply(c).add(BigInteger.valueOf(more));
                BigInteger a = square.divide(BigInteger.TEN.pow(P[f]));
                if (c.toString().length() == P[f] && a.signum() > 0) {
                    String same = c + "E0";
                    String up = c.add(BigInteger.ONE) + "E0";
                    String down = c.subtract(BigInteger.ONE) + "E0";
                    root(f, a + "E" + P[f], more > 0 ? all("16", same, same, up, same, same)
                        : all("16", same, down, same, down, same));
                    tried++;
                }
            }
        }
        due("hard roots were found", tried > 5, true);
    }

    /** CONVERT to format f: rounded there, wish its q. */
    private static void narrower(int f, int g) {
        int low = -BIAS[g];
        int high = GREATEST[g];
        convertInAll(f, g, stem(g, 2) + "5E-1", ending(g, 2, 2, 3, 2, 3));
        convertInAll(f, g, stem(g, 3) + "5E-1", ending(g, 4, 3, 4, 3, 4));
        convertInAll(f, g, stem(g, 2) + "51E-2", ending(g, 3, 2, 3, 2, 3));
        convertInAll(f, g, nines(P[g]) + "5E-1", all("16", ten(P[g] - 1) + "E1", nines(P[g]) + "E0",
            ten(P[g] - 1) + "E1", nines(P[g]) + "E0", ten(P[g] - 1) + "E1"));
        convertInAll(f, g, ten(P[g]) + "E0", all("0", ten(P[g] - 1) + "E1"));
        convertInAll(f, g, "1E" + EMAX[g], all("0", ten(P[g] - 1) + "E" + high));
        convertInAll(f, g, "1E" + (EMAX[g] + 1), tooGreat(g));
        convertInAll(f, g, greatest(f), tooGreat(g));
        convertInAll(f, g, nines(P[g]) + "5E" + (high - 1), justTooGreat(g));
        convertInAll(f, g, nines(P[g]) + "4E" + (high - 1), hardlyTooGreat(g));
        convertInAll(f, g, nines(P[g]) + "0E" + (high - 1), all("0", greatest(g)));
        convertInAll(f, g, "1E" + (low - 1), ofLeast(g, 0, 0, 1, 0, 0));
        convertInAll(f, g, "5E" + (low - 1), ofLeast(g, 0, 0, 1, 0, 1));
        convertInAll(f, g, "15E" + (low - 1), ofLeast(g, 2, 1, 2, 1, 2));
        convertInAll(f, g, "14" + nines(P[g]) + "E" + (low - P[g] - 1), ofLeast(g, 1, 1, 2, 1, 1));
        convertInAll(f, g, least(f), ofLeast(g, 0, 0, 1, 0, 0));
        convertInAll(f, g, "10E" + (low - 1), all("0", least(g)));
        String edge = ten(P[g] - 1) + "E" + low;
        String below = nines(P[g] - 1) + "E" + low;
        convertInAll(f, g, nines(P[g]) + "E" + (low - 1), all("24", edge, below, edge, below, edge));
        convertInAll(f, g, "0E" + (low - 1), all("0", "0E" + low));
        convertInAll(f, g, "0E" + -BIAS[f], all("0", "0E" + low));
        convertInAll(f, g, "0E" + (high + 1), all("0", "0E" + high));
        convertInAll(f, g, "0E" + GREATEST[f], all("0", "0E" + high));
        convertInAll(f, g, greatest(g), all("0", greatest(g)));
        convertInAll(f, g, least(g), all("0", least(g)));
    }

    private static void wider(int f, int g) {
        String[] data = {"12E-3", "0E0", greatest(f), least(f), "0E" + GREATEST[f], "0E" + -BIAS[f], "100E5"};
        for (String datum : data) {
            convertInAll(f, g, datum, all("0", datum));
            convertInAll(f, f, datum, all("0", datum));
            convertInAll(g, g, datum, all("0", datum));
        }
    }

    private static void numbers(int f, long value, String... wants) {
        for (int m = 0; m < 5; m++) {
            numbered(f, m, value, wants[m]);
        }
    }

    /** NUMBER: a whole number of 64 bits, rounded with wish 0; 0 has no sign. */
    private static void numbers() {
        long most = Long.MAX_VALUE;
        long least = Long.MIN_VALUE;
        String upper = "9223373E12";
        String lower = "9223372E12";
        numbers(0, most, all("16", lower, lower, upper, lower, lower));
        numbers(0, least, all("16", "-" + lower, "-" + lower, "-" + lower, "-" + upper, "-" + lower));
        upper = "9223372036854776E3";
        lower = "9223372036854775E3";
        numbers(1, most, all("16", upper, lower, upper, lower, upper));
        numbers(1, least, all("16", "-" + upper, "-" + lower, "-" + lower, "-" + upper, "-" + upper));
        numbers(2, most, all("0", "9223372036854775807E0"));
        numbers(2, least, all("0", "-9223372036854775808E0"));
        numbers(0, 10000025, all("16", "1000002E1", "1000002E1", "1000003E1", "1000002E1", "1000003E1"));
        numbers(0, -10000025, all("16", "-1000002E1", "-1000002E1", "-1000002E1", "-1000003E1", "-1000003E1"));
        numbers(0, 10000035, all("16", "1000004E1", "1000003E1", "1000004E1", "1000003E1", "1000004E1"));
        numbers(0, 99999995, all("16", "1000000E2", "9999999E1", "1000000E2", "9999999E1", "1000000E2"));
        numbers(0, 1000000000000000000L, all("0", "1000000E12"));
        numbers(1, 1000000000000000000L, all("0", "1000000000000000E3"));
        numbers(2, 1000000000000000000L, all("0", "1000000000000000000E0"));
        numbers(0, 10000000, all("0", "1000000E1"));
        for (int f = 0; f < 3; f++) {
            numbers(f, 0, all("0", "0E0"));
            numbers(f, 1, all("0", "1E0"));
            numbers(f, -1, all("0", "-1E0"));
            numbers(f, 9999999, all("0", "9999999E0"));
            numbers(f, -9999999, all("0", "-9999999E0"));
        }
        long[] words = {4294967295L, 4294967296L, 2147483648L, -2147483648L, -2147483649L, -4294967296L, -4294967297L};
        for (long value : words) {
            numbers(1, value, all("0", value + "E0"));
            numbers(2, value, all("0", value + "E0"));
        }
    }
}

import java.math.BigInteger;
import java.util.Random;

/**
 * Sums, quotients, roundings and roots of numbers made of limbs that are hard to divide by: all
 * zeros, all nines, halves of the base, and neighbours of these; and of numbers whose common
 * measure takes Euclid the most steps, or is long itself.
 */
public final class HardNumbersTest {
    private static final long[] HARD = {
        0, 0, 0, 1, 2, 499_999_999, 500_000_000, 500_000_001, 999_999_998, 999_999_999, 999_999_999
    };
    private static final int TRIES = 4000;
    private static final Random DICE = new Random(20);

    private HardNumbersTest() {
    }

    public static void main(String[] args) {
        for (int i = 0; i < TRIES; i++) {
            BigInteger a = number(20);
            BigInteger b = number(1 + DICE.nextInt(20));
            fractions("try " + i + " of " + a + " and " + b + ": ", a, b);
        }
        for (int i = 0; i < TRIES; i++) {
            BigInteger common = number(1 + DICE.nextInt(18));
            int room = 20 - (common.toString().length() + 8) / 9;
            BigInteger a = common.multiply(number(room));
            BigInteger b = common.multiply(number(room));
            fractions("common " + i + " of " + a + " and " + b + ": ", a, b);
        }
        for (int i = 0; i < TRIES; i++) {
            int limbs = 2 + DICE.nextInt(5);
            rests("rests " + i, exactly(limbs + 1 + DICE.nextInt(4)), exactly(limbs));
        }
        fibonacci();
        Hand.end();
    }

    private static BigInteger number(int limbs) {
        return exactly(1 + DICE.nextInt(Math.max(1, limbs)));
    }

    private static BigInteger exactly(int limbs) {
        BigInteger value = BigInteger.ZERO;
        for (int i = 0; i < limbs; i++) {
            long limb = DICE.nextInt(6) == 0 ? DICE.nextInt(1_000_000_000) : HARD[DICE.nextInt(HARD.length)];
            value = value.multiply(Hand.CHUNK).add(BigInteger.valueOf(limb));
        }
        return value.signum() == 0 ? BigInteger.ONE : value;
    }

    /** A rest that is wrong in its lowest digits alone shows far behind the point. */
    private static void rests(String where, BigInteger a, BigInteger b) {
        Told x = new Told();
        x.load(0, 1, a, b);
        for (int k = 9; k <= 300; k += 3) {
            BigInteger behind = a.multiply(BigInteger.TEN.pow(k)).divide(b).mod(BigInteger.TEN);
            Hand.due(where + " of " + a + "/" + b + " behind " + k, x.behind(0, k), behind.toString());
        }
    }

    /** Neighbours among these numbers have 1 as their measure, found in the most steps. */
    private static void fibonacci() {
        BigInteger a = BigInteger.ONE;
        BigInteger b = BigInteger.ONE;
        for (int i = 0; a.add(b).compareTo(Hand.BOUND) < 0; i++) {
            BigInteger next = a.add(b);
            a = b;
            b = next;
            if (i % 7 == 0) {
                fractions("fibonacci " + i + ": ", a, b);
            }
        }
        Hand.due("fibonacci digits", b.toString().length(), 180);
    }

    /** What the call makes of register 15, seen in few calls, or what it throws. */
    private static void see(String what, Told x, String told, String want) {
        boolean fits = !want.equals(Hand.STATE);
        Hand.due(what, told, fits ? Hand.NOTHING : want);
        if (fits && told.equals(Hand.NOTHING)) {
            Hand.due(what + " " + want, x.print(15), Told.printOf(want));
        }
    }

    private static void fractions(String where, BigInteger a, BigInteger b) {
        if (a.compareTo(Hand.BOUND) >= 0 || b.compareTo(Hand.BOUND) >= 0) {
            return;
        }
        Told x = new Told();
        x.load(0, a);
        x.load(1, b);
        x.divide(2, 0, 1);
        x.divide(3, 1, 0);
        BigInteger both = a.multiply(b);
        BigInteger squareA = a.multiply(a);
        BigInteger squareB = b.multiply(b);
        Hand.due(where + "quotient", x.read(2), Hand.fraction(a, b));
        see(where + "product", x, x.multiply(15, 0, 1), Hand.fraction(both, BigInteger.ONE));
        see(where + "to 1", x, x.multiply(15, 2, 3), "1");
        see(where + "sum", x, x.add(15, 2, 3), Hand.fraction(squareA.add(squareB), both));
        see(where + "difference", x, x.subtract(15, 2, 3), Hand.fraction(squareA.subtract(squareB), both));
        Hand.due(where + "order", x.compare(2, 3), "" + a.compareTo(b));
        int d = DICE.nextInt(41);
        BigInteger ten = BigInteger.TEN.pow(d);
        BigInteger scaled = a.multiply(ten);
        see(where + "cut", x, x.round(15, 2, d, 2), Hand.fraction(scaled.divide(b), ten));
        see(where + "root", x, x.root(15, 2, d), Hand.fraction(scaled.multiply(ten).divide(b).sqrt(), ten));
        int k = 1 + DICE.nextInt(300);
        BigInteger behind = a.multiply(BigInteger.TEN.pow(k)).divide(b).mod(BigInteger.TEN);
        Hand.due(where + "behind", x.behind(2, k), behind.toString());
    }
}

import java.math.BigInteger;

/** Counts the answers that are not as due, and tells of each with the line of the test that asked. */
final class Hand {
    static final String NOTHING = "nothing";
    static final String REFUSED = "throws.IllegalArgumentException";
    static final String ARITHMETIC = "throws.ArithmeticException";
    static final String STATE = "throws.IllegalStateException";
    static final String INDEX = "throws.IndexOutOfBoundsException";

    static final BigInteger CHUNK = BigInteger.TEN.pow(9);
    static final BigInteger BOUND = BigInteger.TEN.pow(180);
    static final BigInteger NINES = BOUND.subtract(BigInteger.ONE);

    private static int wrong = 0;
    private static int seen = 0;

    private Hand() {
    }

    static BigInteger ten(int exponent) {
        return BigInteger.TEN.pow(exponent);
    }

    static void due(String what, Object got, Object want) {
        seen++;
        if (!got.equals(want)) {
            wrong++;
            System.out.println(line() + what + " answered " + got + ", due is " + want);
        }
    }

    private static String line() {
        return StackWalker.getInstance().walk(frames -> frames
            .filter(frame -> frame.getClassName().endsWith("Test"))
            .findFirst()
            .map(frame -> frame.getFileName() + ":" + frame.getLineNumber() + ": ")
            .orElse(""));
    }

    /** A fraction as Told.read tells it, or what is thrown if it does not fit. */
    static String fraction(BigInteger above, BigInteger below) {
        BigInteger common = above.gcd(below).multiply(BigInteger.valueOf(below.signum()));
        BigInteger a = above.divide(common);
        BigInteger b = below.divide(common);
        if (a.abs().compareTo(BOUND) >= 0 || b.compareTo(BOUND) >= 0) {
            return STATE;
        }
        return a + (b.equals(BigInteger.ONE) ? "" : "/" + b);
    }

    static void end() {
        System.out.println(seen + " answers seen, " + wrong + " not as due");
        if (wrong != 0 || seen == 0) {
            System.exit(1);
        }
    }
}

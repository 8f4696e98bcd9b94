import java.math.BigInteger;

/** What the tests need to write long fractions into registers, to read them, and to see what a call throws. */
final class Hand {
    static final BigInteger CHUNK = BigInteger.TEN.pow(9);
    static final BigInteger BOUND = BigInteger.TEN.pow(180);

    /** A call whose answer, if it has one, is handed on. */
    interface Call {
        Object run();
    }

    /** A call without an answer. */
    interface Deed {
        void run();
    }

    private static int wrong = 0;
    private static int seen = 0;

    private Hand() {
    }

    static void due(String what, Object got, Object want) {
        seen++;
        if (!got.equals(want)) {
            wrong++;
            System.out.println(what + " answered " + got + ", due is " + want);
        }
    }

    /** The answer, "throws.Name" if the call throws, or "nothing". */
    static String told(Call call) {
        try {
            return String.valueOf(call.run());
        } catch (RuntimeException e) {
            return "throws." + e.getClass().getSimpleName();
        }
    }

    static String told(Deed deed) {
        return told(() -> {
            deed.run();
            return "nothing";
        });
    }

    static void end() {
        System.out.println(seen + " answers seen, " + wrong + " not as due");
        if (wrong != 0 || seen == 0) {
            System.exit(1);
        }
    }

    static void load(WallFractions x, int r, BigInteger whole) {
        BigInteger size = whole.abs();
        int chunks = 0;
        while (size.compareTo(CHUNK) >= 0) {
            size = size.divide(CHUNK);
            chunks++;
        }
        x.set(r, whole.signum() * size.longValueExact(), 1);
        for (int i = chunks - 1; i >= 0; i--) {
            x.more(r, whole.abs().divide(CHUNK.pow(i)).mod(CHUNK).intValueExact());
        }
    }

    /** Register helper holds below afterwards. */
    static void load(WallFractions x, int r, int helper, BigInteger above, BigInteger below) {
        load(x, r, above);
        load(x, helper, below);
        x.divide(r, r, helper);
    }

    static BigInteger part(WallFractions x, int a, int part) {
        StringBuilder text = new StringBuilder();
        for (int k = x.digits(a, part) - 1; k >= 0; k--) {
            text.append(x.digit(a, part, k));
        }
        return new BigInteger(text.toString());
    }

    /** The register as -3/4, or as 5 if it is whole. */
    static String read(WallFractions x, int a) {
        BigInteger above = part(x, a, 0);
        BigInteger below = part(x, a, 1);
        String sign = x.sign(a) < 0 ? "-" : "";
        return sign + above + (below.equals(BigInteger.ONE) ? "" : "/" + below);
    }

    /** Every register and weight, to see that a call changed nothing else. */
    static String all(WallFractions x) {
        StringBuilder text = new StringBuilder();
        for (int a = 0; a < 16; a++) {
            text.append(read(x, a)).append(' ');
        }
        for (int k = 0; k < 10; k++) {
            int w = x.weight(k, 0);
            x.weight(k, w);
            text.append(w).append(' ');
        }
        return text.toString();
    }
}

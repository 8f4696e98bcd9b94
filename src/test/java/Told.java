import java.math.BigInteger;
import java.util.Arrays;
import java.util.function.IntSupplier;

/**
 * An object whose calls are answered in words: a number, "nothing", or "throws." and a name. The
 * document leaves free what an object answers beyond its 512th call, so no test may go there.
 */
final class Told {
    static final int MOST_CALLS = 512;

    /** The greatest prime below 10^9: no slip in a long number is likely to keep its rest by this. */
    static final int PRIME = 999_999_937;

    private final WallFractions object = new WallFractions();
    private int calls = 0;
    private String last = "";

    int callsLeft() {
        return MOST_CALLS - calls;
    }

    /** The last call, to tell of. */
    String last() {
        return last;
    }

    private String ask(String name, IntSupplier answer, int... numbers) {
        count(name + Arrays.toString(numbers));
        try {
            return String.valueOf(answer.getAsInt());
        } catch (RuntimeException e) {
            return thrown(e);
        }
    }

    private String order(String name, Runnable deed, long... numbers) {
        count(name + Arrays.toString(numbers));
        try {
            deed.run();
            return Hand.NOTHING;
        } catch (RuntimeException e) {
            return thrown(e);
        }
    }

    /** Of the exceptions that a call may throw, the machine throws one by itself, with these words. */
    private static String thrown(RuntimeException e) {
        return "throws." + e.getClass().getSimpleName() + ("/ by zero".equals(e.getMessage()) ? " by itself" : "");
    }

    private void count(String call) {
        last = call;
        calls++;
        if (calls > MOST_CALLS) {
            throw new Error("a test makes more than 512 calls on one object, the last is " + call);
        }
    }

    String set(int r, long above, long below) {
        return order("set", () -> object.set(r, above, below), r, above, below);
    }

    String more(int r, int digits) {
        return order("more", () -> object.more(r, digits), r, digits);
    }

    String add(int r, int a, int b) {
        return order("add", () -> object.add(r, a, b), r, a, b);
    }

    String subtract(int r, int a, int b) {
        return order("subtract", () -> object.subtract(r, a, b), r, a, b);
    }

    String multiply(int r, int a, int b) {
        return order("multiply", () -> object.multiply(r, a, b), r, a, b);
    }

    String divide(int r, int a, int b) {
        return order("divide", () -> object.divide(r, a, b), r, a, b);
    }

    String power(int r, int a, int n) {
        return order("power", () -> object.power(r, a, n), r, a, n);
    }

    String binomial(int r, int n, int k) {
        return order("binomial", () -> object.binomial(r, n, k), r, n, k);
    }

    String round(int r, int a, int decimals, int how) {
        return order("round", () -> object.round(r, a, decimals, how), r, a, decimals, how);
    }

    String root(int r, int a, int decimals) {
        return order("root", () -> object.root(r, a, decimals), r, a, decimals);
    }

    String compare(int a, int b) {
        return ask("compare", () -> object.compare(a, b), a, b);
    }

    String sign(int a) {
        return ask("sign", () -> object.sign(a), a);
    }

    String digits(int a, int part) {
        return ask("digits", () -> object.digits(a, part), a, part);
    }

    String digit(int a, int part, int k) {
        return ask("digit", () -> object.digit(a, part, k), a, part, k);
    }

    String behind(int a, int k) {
        return ask("behind", () -> object.behind(a, k), a, k);
    }

    String modulo(int a, int part, int m) {
        return ask("modulo", () -> object.modulo(a, part, m), a, part, m);
    }

    String weight(int k, int w) {
        return ask("weight", () -> object.weight(k, w), k, w);
    }

    String share(int r, int a, int k) {
        return order("share", () -> object.share(r, a, k), r, a, k);
    }

    /** Writes a whole number that fits, nine digits a call. */
    String load(int r, BigInteger whole) {
        String digits = whole.abs().toString();
        int ahead = (digits.length() - 1) % 9 + 1;
        long leading = Long.parseLong(digits.substring(0, ahead));
        String told = set(r, whole.signum() < 0 ? -leading : leading, 1);
        for (int i = ahead; i < digits.length() && told.equals(Hand.NOTHING); i += 9) {
            told = more(r, Integer.parseInt(digits.substring(i, i + 9)));
        }
        return told;
    }

    /** Register helper holds below afterwards. */
    String load(int r, int helper, BigInteger above, BigInteger below) {
        String first = load(r, above);
        String second = load(helper, below);
        String third = divide(r, r, helper);
        return first.equals(second) ? third : first + " " + second;
    }

    /** Above or below, digit by digit. */
    String part(int a, int part) {
        String length = digits(a, part);
        if (!length.matches("\\d{1,3}")) {
            return "of " + length + " digits";
        }
        StringBuilder text = new StringBuilder();
        for (int k = Integer.parseInt(length) - 1; k >= 0; k--) {
            text.append(digit(a, part, k));
        }
        return text.toString();
    }

    /** The register as -3/4, or as 5 if it is whole. */
    String read(int a) {
        String sign = sign(a);
        String above = part(a, 0);
        String below = part(a, 1);
        if (sign.equals("0") != above.equals("0")) {
            return above + "/" + below + " with the sign " + sign;
        }
        return (sign.equals("-1") ? "-" : "") + above + (below.equals("1") ? "" : "/" + below);
    }

    /** What tells the register from others in few calls. */
    String print(int a) {
        return sign(a) + " " + modulo(a, 0, PRIME) + " " + modulo(a, 1, PRIME);
    }

    /** What print is due to tell of a fraction as read tells it. */
    static String printOf(String fraction) {
        String[] parts = fraction.split("/");
        BigInteger prime = BigInteger.valueOf(PRIME);
        BigInteger above = new BigInteger(parts[0]);
        BigInteger below = parts.length > 1 ? new BigInteger(parts[1]) : BigInteger.ONE;
        return above.signum() + " " + above.abs().mod(prime) + " " + below.mod(prime);
    }

    /** All registers but this one, and all weights, which are 0 afterwards. */
    String allBut(int without) {
        StringBuilder text = new StringBuilder();
        for (int a = 0; a < 16; a++) {
            text.append(a == without ? "" : print(a)).append(", ");
        }
        for (int k = 0; k < 10; k++) {
            text.append(weight(k, 0)).append(' ');
        }
        return text.toString();
    }

    String all() {
        return allBut(-1);
    }
}

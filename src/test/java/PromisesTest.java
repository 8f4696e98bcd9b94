import java.math.BigInteger;

/** Each promise of the document: ordinary inputs, the edges that it names, and wrong inputs. */
public final class PromisesTest {
    private static final String REFUSED = "throws.IllegalArgumentException";
    private static final String ARITHMETIC = "throws.ArithmeticException";
    private static final String STATE = "throws.IllegalStateException";
    private static final String INDEX = "throws.IndexOutOfBoundsException";
    private static final String NOTHING = "nothing";
    private static final int[] NO_REGISTERS = {-1, 16, Integer.MIN_VALUE, Integer.MAX_VALUE};
    private static final BigInteger GREATEST = Hand.BOUND.subtract(BigInteger.ONE);

    private PromisesTest() {
    }

    public static void main(String[] args) {
        newObject();
        set();
        setRefuses();
        more();
        moreRefuses();
        add();
        subtract();
        multiply();
        divide();
        pairsRefuse();
        power();
        binomial();
        round();
        roundRefuses();
        root();
        rootRefuses();
        compare();
        sign();
        digits();
        digit();
        behind();
        modulo();
        weight();
        share();
        shareAtLength();
        shareRefuses();
        Hand.end();
    }

    private static BigInteger ten(int exponent) {
        return BigInteger.TEN.pow(exponent);
    }

    /** The call answers so, and register r is so afterwards. */
    private static void sees(String what, WallFractions x, Hand.Deed deed, int r, String want) {
        Hand.due(what, Hand.told(deed), NOTHING);
        Hand.due(what + " register " + r, Hand.read(x, r), want);
    }

    /** The call throws so, and neither a register nor a weight is changed by it. */
    private static void throwsUp(String what, WallFractions x, Hand.Deed deed, String want) {
        String before = Hand.all(x);
        Hand.due(what, Hand.told(deed), want);
        Hand.due(what + " state", Hand.all(x), before);
    }

    private static void throwsUp(String what, WallFractions x, Hand.Call call, String want) {
        throwsUp(what, x, (Hand.Deed) call::run, want);
    }

    /** The register is 0 / 1 in every call that could tell a 0 with a sign from one without. */
    private static void plainZero(String what, WallFractions x, int r) {
        Hand.due(what + " 0", Hand.read(x, r), "0");
        Hand.due(what + " 0 has no sign", x.sign(r), 0);
        Hand.due(what + " 0 as a new 0", x.compare(r, 2) + " " + x.compare(2, r), "0 0");
        Hand.due(what + " 0 has a root", Hand.told(() -> x.root(12, r, 0)), NOTHING);
        Hand.due(what + " 0 is shared", Hand.told(() -> x.share(12, r, 0)), NOTHING);
    }

    /** Register 0 is 7 / 2, 1 is -7 / 3, 2 is 0, 3 is 10^180 - 1, 4 is 1 / (10^180 - 1), 5 is -12; weights 3, 1. */
    private static WallFractions filled() {
        WallFractions x = new WallFractions();
        x.set(0, 7, 2);
        x.set(1, -7, 3);
        Hand.load(x, 3, GREATEST);
        Hand.load(x, 4, 15, BigInteger.ONE, GREATEST);
        x.set(15, 0, 1);
        x.set(5, -12, 1);
        x.weight(0, 3);
        x.weight(9, 1);
        return x;
    }

    private static void newObject() {
        WallFractions x = new WallFractions();
        Hand.due("1: all", Hand.all(x), "0 ".repeat(26));
        for (int a = 0; a < 16; a++) {
            Hand.due("1: sign " + a, x.sign(a), 0);
            Hand.due("1: below " + a, x.digit(a, 1, 0), 1);
        }
        WallFractions y = filled();
        Hand.due("1: objects share nothing", Hand.all(new WallFractions()), "0 ".repeat(26));
        Hand.due("1: the other keeps its own", Hand.read(y, 0), "7/2");
    }

    private static void set() {
        WallFractions x = new WallFractions();
        x.weight(0, 1);
        sees("2: lowest terms", x, () -> x.set(0, 6, 4), 0, "3/2");
        sees("2: 1 over a negative", x, () -> x.set(0, 1, -4), 0, "-1/4");
        sees("2: below is positive", x, () -> x.set(0, 6, -4), 0, "-3/2");
        sees("2: two signs", x, () -> x.set(15, -6, -4), 15, "3/2");
        sees("2: whole", x, () -> x.set(0, -6, 3), 0, "-2");
        sees("2: zero", x, () -> x.set(0, 0, -9), 0, "0");
        plainZero("2: zero", x, 0);
        sees("2: zero over the least", x, () -> x.set(0, 0, -Long.MAX_VALUE), 0, "0");
        sees("2: greatest", x, () -> x.set(0, Long.MAX_VALUE, 1), 0, "9223372036854775807");
        sees("2: least", x, () -> x.set(0, -Long.MAX_VALUE, 2), 0, "-9223372036854775807/2");
        sees("2: both", x, () -> x.set(0, Long.MAX_VALUE, -Long.MAX_VALUE), 0, "-1");
        sees("2: below long", x, () -> x.set(0, 1, Long.MAX_VALUE), 0, "1/9223372036854775807");
        sees("2: limbs", x, () -> x.set(0, 1_000_000_000_000_000_000L, 3), 0, "1000000000000000000/3");
        Hand.due("2: the others stay", Hand.read(x, 15), "3/2");
    }

    private static void setRefuses() {
        WallFractions x = filled();
        for (int r : NO_REGISTERS) {
            throwsUp("2: register " + r, x, () -> x.set(r, 1, 1), REFUSED);
            throwsUp("2: register first " + r, x, () -> x.set(r, 1, 0), REFUSED);
        }
        throwsUp("2: above", x, () -> x.set(0, Long.MIN_VALUE, 1), REFUSED);
        throwsUp("2: below", x, () -> x.set(0, 1, Long.MIN_VALUE), REFUSED);
        throwsUp("2: above ahead of below 0", x, () -> x.set(0, Long.MIN_VALUE, 0), REFUSED);
        throwsUp("2: 0 over the least", x, () -> x.set(0, 0, Long.MIN_VALUE), REFUSED);
        throwsUp("2: below 0", x, () -> x.set(0, 1, 0), ARITHMETIC);
        throwsUp("2: 0 over 0", x, () -> x.set(0, 0, 0), ARITHMETIC);
    }

    private static void more() {
        WallFractions x = new WallFractions();
        sees("3: from 0", x, () -> x.more(0, 5), 0, "5");
        sees("3: more", x, () -> x.more(0, 999_999_999), 0, "5999999999");
        sees("3: nothing more", x, () -> x.more(0, 0), 0, "5999999999000000000");
        sees("3: 0 stays 0", x, () -> x.more(1, 0), 1, "0");
        x.set(2, -3, 1);
        sees("3: less", x, () -> x.more(2, 7), 2, "-3000000007");
        sees("3: less again", x, () -> x.more(2, 999_999_999), 2, "-3000000007999999999");
        for (int i = 0; i < 20; i++) {
            x.more(3, 999_999_999);
        }
        Hand.due("3: the greatest that fits", Hand.read(x, 3), GREATEST.toString());
    }

    private static void moreRefuses() {
        WallFractions x = filled();
        for (int r : NO_REGISTERS) {
            throwsUp("3: register " + r, x, () -> x.more(r, 1), REFUSED);
        }
        throwsUp("3: digits -1", x, () -> x.more(2, -1), REFUSED);
        throwsUp("3: digits 10^9", x, () -> x.more(2, 1_000_000_000), REFUSED);
        throwsUp("3: digits ahead of not whole", x, () -> x.more(0, -1), REFUSED);
        throwsUp("3: not whole", x, () -> x.more(0, 1), STATE);
        throwsUp("3: not whole, negative", x, () -> x.more(1, 0), STATE);
        throwsUp("3: too long", x, () -> x.more(3, 0), STATE);
        Hand.load(x, 6, ten(171).negate());
        throwsUp("3: too long, negative", x, () -> x.more(6, 0), STATE);
        Hand.load(x, 6, ten(171).subtract(BigInteger.ONE).negate());
        sees("3: just fits", x, () -> x.more(6, 0), 6, "-" + ten(171).subtract(BigInteger.ONE).multiply(ten(9)));
    }

    private static void add() {
        WallFractions x = filled();
        sees("4: fractions", x, () -> x.add(6, 0, 1), 6, "7/6");
        sees("4: changed over", x, () -> x.add(6, 1, 0), 6, "7/6");
        sees("4: two negatives", x, () -> x.add(6, 1, 5), 6, "-43/3");
        sees("4: with 0", x, () -> x.add(6, 1, 2), 6, "-7/3");
        sees("4: lowest terms", x, () -> x.add(6, 0, 0), 6, "7");
        sees("4: into itself", x, () -> x.add(0, 0, 1), 0, "7/6");
        x.set(0, 7, 3);
        sees("4: to 0", x, () -> x.add(6, 0, 1), 6, "0");
        plainZero("4:", x, 6);
        x.set(7, 1, 1);
        throwsUp("4: 10^180", x, () -> x.add(6, 3, 7), STATE);
        throwsUp("4: into itself", x, () -> x.add(3, 3, 7), STATE);
        throwsUp("4: above too long", x, () -> x.add(6, 3, 4), STATE);
        throwsUp("4: below too long", x, () -> x.add(6, 4, 1), STATE);
        x.set(7, -1, 1);
        sees("4: just fits", x, () -> x.add(6, 3, 7), 6, GREATEST.subtract(BigInteger.ONE).toString());
        Hand.load(x, 8, 15, ten(100).add(BigInteger.ONE), ten(179));
        Hand.load(x, 9, 15, ten(100).multiply(BigInteger.valueOf(4)).subtract(BigInteger.ONE), ten(179));
        sees("4: long to short", x, () -> x.add(6, 8, 9), 6, "1/" + ten(78).multiply(BigInteger.TWO));
    }

    private static void subtract() {
        WallFractions x = filled();
        sees("5: fractions", x, () -> x.subtract(6, 0, 1), 6, "35/6");
        sees("5: changed over", x, () -> x.subtract(6, 1, 0), 6, "-35/6");
        sees("5: two negatives", x, () -> x.subtract(6, 1, 5), 6, "29/3");
        sees("5: 0 less a number", x, () -> x.subtract(6, 2, 0), 6, "-7/2");
        sees("5: 0 less a negative", x, () -> x.subtract(6, 2, 1), 6, "7/3");
        sees("5: itself", x, () -> x.subtract(6, 1, 1), 6, "0");
        plainZero("5:", x, 6);
        sees("5: 0 less 0", x, () -> x.subtract(6, 2, 2), 6, "0");
        sees("5: the longest from itself", x, () -> x.subtract(6, 3, 3), 6, "0");
        sees("5: into itself", x, () -> x.subtract(1, 0, 1), 1, "35/6");
        x.set(7, -1, 1);
        throwsUp("5: 10^180", x, () -> x.subtract(3, 3, 7), STATE);
        x.subtract(8, 2, 3);
        x.set(7, 1, 1);
        throwsUp("5: -10^180", x, () -> x.subtract(6, 8, 7), STATE);
        sees("5: just fits", x, () -> x.subtract(6, 3, 7), 6, GREATEST.subtract(BigInteger.ONE).toString());
    }

    private static void multiply() {
        WallFractions x = filled();
        sees("6: fractions", x, () -> x.multiply(6, 0, 1), 6, "-49/6");
        sees("6: lowest terms", x, () -> x.multiply(6, 0, 5), 6, "-42");
        sees("6: two negatives", x, () -> x.multiply(6, 1, 5), 6, "28");
        sees("6: with 0", x, () -> x.multiply(6, 1, 2), 6, "0");
        plainZero("6:", x, 6);
        sees("6: 0 with a negative", x, () -> x.multiply(6, 2, 1), 6, "0");
        plainZero("6: changed over", x, 6);
        sees("6: the longest to 1", x, () -> x.multiply(6, 3, 4), 6, "1");
        sees("6: into itself", x, () -> x.multiply(0, 0, 0), 0, "49/4");
        throwsUp("6: above too long", x, () -> x.multiply(3, 3, 3), STATE);
        throwsUp("6: below too long", x, () -> x.multiply(4, 4, 4), STATE);
        Hand.load(x, 6, ten(90));
        throwsUp("6: 10^180", x, () -> x.multiply(6, 6, 6), STATE);
        Hand.load(x, 7, ten(90).subtract(BigInteger.ONE).negate());
        sees("6: just fits", x, () -> x.multiply(6, 6, 7), 6, "-" + ten(180).subtract(ten(90)));
    }

    private static void divide() {
        WallFractions x = filled();
        sees("7: fractions", x, () -> x.divide(6, 0, 1), 6, "-3/2");
        sees("7: two negatives", x, () -> x.divide(6, 1, 5), 6, "7/36");
        sees("7: 0", x, () -> x.divide(6, 2, 1), 6, "0");
        plainZero("7:", x, 6);
        sees("7: by itself", x, () -> x.divide(6, 3, 3), 6, "1");
        sees("7: into itself", x, () -> x.divide(1, 0, 1), 1, "-3/2");
        x.set(7, 1, 1);
        sees("7: the longest turned over", x, () -> x.divide(6, 7, 4), 6, GREATEST.toString());
        throwsUp("7: too long", x, () -> x.divide(6, 3, 4), STATE);
        throwsUp("7: below too long", x, () -> x.divide(6, 4, 3), STATE);
        throwsUp("7: by 0", x, () -> x.divide(6, 1, 2), ARITHMETIC);
        throwsUp("7: 0 by 0", x, () -> x.divide(2, 2, 2), ARITHMETIC);
    }

    private static void pairsRefuse() {
        WallFractions x = filled();
        for (int none : NO_REGISTERS) {
            throwsUp("4: r " + none, x, () -> x.add(none, 0, 1), REFUSED);
            throwsUp("4: a " + none, x, () -> x.add(0, none, 1), REFUSED);
            throwsUp("4: b " + none, x, () -> x.add(0, 1, none), REFUSED);
            throwsUp("5: r " + none, x, () -> x.subtract(none, 0, 1), REFUSED);
            throwsUp("5: a " + none, x, () -> x.subtract(0, none, 1), REFUSED);
            throwsUp("5: b " + none, x, () -> x.subtract(0, 1, none), REFUSED);
            throwsUp("6: r " + none, x, () -> x.multiply(none, 3, 3), REFUSED);
            throwsUp("6: a " + none, x, () -> x.multiply(0, none, 1), REFUSED);
            throwsUp("6: b " + none, x, () -> x.multiply(0, 1, none), REFUSED);
            throwsUp("7: r " + none, x, () -> x.divide(none, 0, 2), REFUSED);
            throwsUp("7: a " + none, x, () -> x.divide(0, none, 2), REFUSED);
            throwsUp("7: b " + none, x, () -> x.divide(0, 1, none), REFUSED);
        }
    }

    private static void power() {
        WallFractions x = filled();
        sees("8: 2nd", x, () -> x.power(6, 0, 2), 6, "49/4");
        sees("8: odd of a negative", x, () -> x.power(6, 1, 3), 6, "-343/27");
        sees("8: even of a negative", x, () -> x.power(6, 1, 4), 6, "2401/81");
        sees("8: 0-th", x, () -> x.power(6, 1, 0), 6, "1");
        sees("8: 0-th of the longest", x, () -> x.power(6, 3, 0), 6, "1");
        sees("8: 1st of the longest", x, () -> x.power(6, 3, 1), 6, GREATEST.toString());
        sees("8: 1st of the least", x, () -> x.power(6, 4, 1), 6, "1/" + GREATEST);
        sees("8: 0^0", x, () -> x.power(6, 2, 0), 6, "1");
        sees("8: 0^200", x, () -> x.power(6, 2, 200), 6, "0");
        x.set(7, -1, 1);
        sees("8: (-1)^199", x, () -> x.power(6, 7, 199), 6, "-1");
        sees("8: (-1)^200", x, () -> x.power(6, 7, 200), 6, "1");
        x.set(7, -7, 6);
        sees("8: 200th", x, () -> x.power(6, 7, 200), 6,
            BigInteger.valueOf(7).pow(200) + "/" + BigInteger.valueOf(6).pow(200));
        x.set(7, 10, 1);
        sees("8: 10^179", x, () -> x.power(6, 7, 179), 6, ten(179).toString());
        throwsUp("8: 10^180", x, () -> x.power(6, 7, 180), STATE);
        x.set(7, 1, 10);
        throwsUp("8: below too long", x, () -> x.power(7, 7, 180), STATE);
        sees("8: into itself", x, () -> x.power(7, 7, 179), 7, "1/" + ten(179));
        throwsUp("8: far too long", x, () -> x.power(6, 3, 200), STATE);
        for (int none : NO_REGISTERS) {
            throwsUp("8: r " + none, x, () -> x.power(none, 0, 1), REFUSED);
            throwsUp("8: a " + none, x, () -> x.power(0, none, 1), REFUSED);
        }
        throwsUp("8: n -1", x, () -> x.power(6, 3, -1), REFUSED);
        throwsUp("8: n 201", x, () -> x.power(6, 3, 201), REFUSED);
    }

    private static void binomial() {
        WallFractions x = filled();
        x.set(1, -7, 3);
        sees("9: 5 over 2", x, () -> x.binomial(1, 5, 2), 1, "10");
        sees("9: 0 over 0", x, () -> x.binomial(6, 0, 0), 6, "1");
        sees("9: n over 0", x, () -> x.binomial(6, 500, 0), 6, "1");
        sees("9: n over n", x, () -> x.binomial(6, 500, 500), 6, "1");
        sees("9: n over 1", x, () -> x.binomial(6, 500, 1), 6, "500");
        sees("9: n over n - 1", x, () -> x.binomial(6, 499, 498), 6, "499");
        sees("9: 61 over 30", x, () -> x.binomial(6, 61, 30), 6, "232714176627630544");
        x.set(6, -7, 3);
        sees("9: below 0", x, () -> x.binomial(6, 5, -1), 6, "0");
        sees("9: above n", x, () -> x.binomial(6, 5, 6), 6, "0");
        sees("9: least k", x, () -> x.binomial(6, 500, Integer.MIN_VALUE), 6, "0");
        sees("9: greatest k", x, () -> x.binomial(6, 0, Integer.MAX_VALUE), 6, "0");
        sees("9: the longest", x, () -> x.binomial(6, 500, 250), 6, choose(500, 250).toString());
        sees("9: 500 over 123", x, () -> x.binomial(6, 500, 123), 6, choose(500, 123).toString());
        sees("9: 500 over 377", x, () -> x.binomial(6, 500, 377), 6, choose(500, 123).toString());
        for (int none : NO_REGISTERS) {
            throwsUp("9: r " + none, x, () -> x.binomial(none, 5, 2), REFUSED);
        }
        throwsUp("9: n -1", x, () -> x.binomial(6, -1, 0), REFUSED);
        throwsUp("9: n -1, k below 0", x, () -> x.binomial(6, -1, -1), REFUSED);
        throwsUp("9: n 501", x, () -> x.binomial(6, 501, 502), REFUSED);
    }

    private static BigInteger choose(int n, int k) {
        BigInteger above = BigInteger.ONE;
        BigInteger below = BigInteger.ONE;
        for (int i = 1; i <= k; i++) {
            above = above.multiply(BigInteger.valueOf(n + 1 - i));
            below = below.multiply(BigInteger.valueOf(i));
        }
        return above.divide(below);
    }

    /** What floor, rounded and cut are due to be. */
    private static void rounds(WallFractions x, int a, int decimals, String... wants) {
        for (int how = 0; how < 3; how++) {
            int now = how;
            sees("10: " + Hand.read(x, a) + " to " + decimals + " how " + how, x,
                () -> x.round(13, a, decimals, now), 13, wants[how]);
        }
    }

    private static void round() {
        WallFractions x = filled();
        rounds(x, 0, 0, "3", "4", "3");
        rounds(x, 1, 0, "-3", "-2", "-2");
        rounds(x, 1, 2, "-117/50", "-233/100", "-233/100");
        rounds(x, 2, 40, "0", "0", "0");
        rounds(x, 5, 3, "-12", "-12", "-12");
        rounds(x, 3, 0, GREATEST.toString(), GREATEST.toString(), GREATEST.toString());
        rounds(x, 3, 40, GREATEST.toString(), GREATEST.toString(), GREATEST.toString());
        rounds(x, 4, 40, "0", "0", "0");
        x.set(6, -7, 2);
        rounds(x, 6, 0, "-4", "-3", "-3");
        x.set(6, -1, 2);
        rounds(x, 6, 0, "-1", "0", "0");
        x.set(6, -51, 100);
        rounds(x, 6, 0, "-1", "-1", "0");
        x.set(6, 49, 100);
        rounds(x, 6, 0, "0", "0", "0");
        x.set(6, 1, 2);
        rounds(x, 6, 0, "0", "1", "0");
        x.set(6, -1, 3);
        rounds(x, 6, 40, "-" + ten(40).divide(BigInteger.valueOf(3)).add(BigInteger.ONE).divide(BigInteger.TWO)
            + "/" + ten(40).divide(BigInteger.TWO), thirds(), thirds());
        x.set(6, 19995, 10000);
        rounds(x, 6, 3, "1999/1000", "2", "1999/1000");
        sees("10: into itself", x, () -> x.round(6, 6, 3, 0), 6, "1999/1000");
        x.subtract(7, 2, 4);
        rounds(x, 7, 0, "-1", "0", "0");
        plainZero("10:", x, 13);
    }

    private static String thirds() {
        return "-" + ten(40).divide(BigInteger.valueOf(3)) + "/" + ten(40);
    }

    private static void roundRefuses() {
        WallFractions x = filled();
        for (int none : NO_REGISTERS) {
            throwsUp("10: r " + none, x, () -> x.round(none, 0, 0, 0), REFUSED);
            throwsUp("10: a " + none, x, () -> x.round(0, none, 0, 0), REFUSED);
        }
        throwsUp("10: decimals -1", x, () -> x.round(6, 0, -1, 0), REFUSED);
        throwsUp("10: decimals 41", x, () -> x.round(6, 0, 41, 0), REFUSED);
        throwsUp("10: how -1", x, () -> x.round(6, 0, 0, -1), REFUSED);
        throwsUp("10: how 3", x, () -> x.round(6, 0, 0, 3), REFUSED);
        Hand.load(x, 6, 15, ten(150), BigInteger.valueOf(7));
        throwsUp("10: too long", x, () -> x.round(6, 6, 40, 0), STATE);
        throwsUp("10: too long rounded", x, () -> x.round(6, 6, 40, 1), STATE);
        throwsUp("10: too long cut", x, () -> x.round(6, 6, 31, 2), STATE);
        throwsUp("10: how ahead of too long", x, () -> x.round(6, 6, 40, 3), REFUSED);
        String cut = ten(180).divide(BigInteger.valueOf(7)).toString();
        Hand.due("10: its length", cut.length(), 180);
        sees("10: just fits", x, () -> x.round(7, 6, 30, 2), 7, cut + "/" + ten(30));
        Hand.load(x, 8, 15, ten(180).subtract(BigInteger.ONE), BigInteger.TEN);
        sees("10: just below", x, () -> x.round(7, 8, 0, 1), 7, ten(179).toString());
    }

    private static void root() {
        WallFractions x = filled();
        x.set(6, 2, 1);
        sees("11: of 2", x, () -> x.root(7, 6, 0), 7, "1");
        sees("11: of 2 to 3", x, () -> x.root(7, 6, 3), 7, "707/500");
        sees("11: of 2 to 40", x, () -> x.root(7, 6, 40), 7,
            new java.math.BigDecimal("1.4142135623730950488016887242096980785696").unscaledValue()
                .divide(BigInteger.valueOf(32)) + "/" + ten(40).divide(BigInteger.valueOf(32)));
        x.set(6, 9, 4);
        sees("11: of a square", x, () -> x.root(7, 6, 1), 7, "3/2");
        sees("11: of a square to 0", x, () -> x.root(7, 6, 0), 7, "1");
        x.set(6, 35, 9);
        sees("11: of 35/9", x, () -> x.root(7, 6, 0), 7, "1");
        x.set(6, 99, 1);
        sees("11: of 99", x, () -> x.root(7, 6, 0), 7, "9");
        x.set(6, 100, 1);
        sees("11: of 100, into itself", x, () -> x.root(6, 6, 0), 6, "10");
        x.set(6, 1, 1);
        sees("11: of 1", x, () -> x.root(7, 6, 40), 7, "1");
        sees("11: of 0", x, () -> x.root(7, 2, 40), 7, "0");
        sees("11: of the least", x, () -> x.root(7, 4, 40), 7, "0");
        sees("11: of the longest", x, () -> x.root(7, 3, 0), 7, ten(90).subtract(BigInteger.ONE).toString());
        BigInteger wide = GREATEST.multiply(ten(80)).sqrt();
        sees("11: of the longest to 40", x, () -> x.root(7, 3, 40), 7, wide + "/" + ten(40));
        BigInteger side = ten(89).add(BigInteger.valueOf(12345));
        Hand.load(x, 6, side.multiply(side));
        sees("11: of a long square", x, () -> x.root(7, 6, 0), 7, side.toString());
        Hand.load(x, 6, side.multiply(side).subtract(BigInteger.ONE));
        sees("11: of a long square less 1", x, () -> x.root(7, 6, 0), 7, side.subtract(BigInteger.ONE).toString());
    }

    private static void rootRefuses() {
        WallFractions x = filled();
        for (int none : NO_REGISTERS) {
            throwsUp("11: r " + none, x, () -> x.root(none, 1, 0), REFUSED);
            throwsUp("11: a " + none, x, () -> x.root(0, none, 0), REFUSED);
        }
        throwsUp("11: decimals -1", x, () -> x.root(6, 1, -1), REFUSED);
        throwsUp("11: decimals 41", x, () -> x.root(6, 1, 41), REFUSED);
        throwsUp("11: below 0", x, () -> x.root(6, 1, 0), ARITHMETIC);
        throwsUp("11: whole below 0", x, () -> x.root(5, 5, 40), ARITHMETIC);
    }

    private static void compares(WallFractions x, int a, int b, int want) {
        Hand.due("12: " + a + " and " + b, Hand.told(() -> x.compare(a, b)), "" + want);
        Hand.due("12: " + b + " and " + a, Hand.told(() -> x.compare(b, a)), "" + -want);
    }

    private static void compare() {
        WallFractions x = filled();
        String before = Hand.all(x);
        compares(x, 0, 1, 1);
        compares(x, 0, 2, 1);
        compares(x, 1, 2, -1);
        compares(x, 5, 1, -1);
        compares(x, 2, 6, 0);
        compares(x, 2, 4, -1);
        compares(x, 3, 0, 1);
        compares(x, 3, 4, 1);
        for (int a = 0; a < 16; a++) {
            compares(x, a, a, 0);
        }
        Hand.due("12: nothing changes", Hand.all(x), before);
        BigInteger large = GREATEST.subtract(BigInteger.ONE);
        Hand.load(x, 6, 15, large, GREATEST);
        Hand.load(x, 7, 15, large.subtract(BigInteger.ONE), large);
        compares(x, 6, 7, 1);
        x.subtract(8, 2, 6);
        x.subtract(9, 2, 7);
        compares(x, 8, 9, -1);
        for (int none : NO_REGISTERS) {
            throwsUp("12: a " + none, x, () -> x.compare(none, 0), REFUSED);
            throwsUp("12: b " + none, x, () -> x.compare(0, none), REFUSED);
        }
    }

    private static void sign() {
        WallFractions x = filled();
        int[] wants = {1, -1, 0, 1, 1, -1, 0};
        for (int a = 0; a < wants.length; a++) {
            int now = a;
            Hand.due("13: " + a, Hand.told(() -> x.sign(now)), "" + wants[a]);
        }
        for (int none : NO_REGISTERS) {
            throwsUp("13: a " + none, x, () -> x.sign(none), REFUSED);
        }
    }

    private static void digits() {
        WallFractions x = filled();
        Hand.due("14: of 0", x.digits(2, 0), 1);
        Hand.due("14: of 1", x.digits(2, 1), 1);
        Hand.due("14: of -12", x.digits(5, 0), 2);
        Hand.due("14: of the longest", x.digits(3, 0), 180);
        Hand.due("14: of the longest below", x.digits(4, 1), 180);
        for (int length = 1; length <= 180; length++) {
            Hand.load(x, 6, ten(length - 1));
            Hand.due("14: of 10^" + (length - 1), x.digits(6, 0), length);
            Hand.load(x, 6, ten(length).subtract(BigInteger.ONE).negate());
            Hand.due("14: of 10^" + length + " - 1", x.digits(6, 0), length);
        }
        for (int none : NO_REGISTERS) {
            throwsUp("14: a " + none, x, () -> x.digits(none, 0), REFUSED);
        }
        throwsUp("14: part -1", x, () -> x.digits(0, -1), REFUSED);
        throwsUp("14: part 2", x, () -> x.digits(0, 2), REFUSED);
    }

    private static void digit() {
        WallFractions x = filled();
        BigInteger number = new BigInteger("9876543210".repeat(18));
        String text = number.toString();
        Hand.load(x, 6, 15, number.negate(), BigInteger.ONE);
        x.set(7, 1, 1);
        x.divide(7, 7, 6);
        for (int k = 0; k < 180; k++) {
            int want = text.charAt(179 - k) - '0';
            Hand.due("15: above " + k, x.digit(6, 0, k), want);
            Hand.due("15: below " + k, x.digit(7, 1, k), want);
        }
        Hand.due("15: of 0", x.digit(2, 0, 0), 0);
        throwsUp("15: of 0, 1", x, () -> x.digit(2, 0, 1), INDEX);
        throwsUp("15: 180", x, () -> x.digit(6, 0, 180), INDEX);
        throwsUp("15: -1", x, () -> x.digit(6, 0, -1), INDEX);
        throwsUp("15: least", x, () -> x.digit(6, 1, Integer.MIN_VALUE), INDEX);
        throwsUp("15: greatest", x, () -> x.digit(6, 1, Integer.MAX_VALUE), INDEX);
        for (int none : NO_REGISTERS) {
            throwsUp("15: a " + none, x, () -> x.digit(none, 0, 999), REFUSED);
        }
        throwsUp("15: part -1", x, () -> x.digit(6, -1, 999), REFUSED);
        throwsUp("15: part 2", x, () -> x.digit(6, 2, 0), REFUSED);
    }

    private static void behind() {
        WallFractions x = filled();
        Hand.due("16: 7/2", x.behind(0, 1), 5);
        Hand.due("16: 7/2", x.behind(0, 2), 0);
        Hand.due("16: without its sign", x.behind(1, 300), 3);
        Hand.due("16: of 0", x.behind(2, 1), 0);
        Hand.due("16: of a whole number", x.behind(3, 1), 0);
        for (int k = 1; k <= 300; k++) {
            Hand.due("16: the least " + k, x.behind(4, k), k == 180 ? 1 : 0);
        }
        x.set(6, -1, 7);
        BigInteger above = new BigInteger("271828182845904523536028747135266249775724709369995957496696762772");
        BigInteger below = new BigInteger("31415926535897932384626433832795028841971693993751058209749445923078164");
        Hand.load(x, 7, 15, above, below);
        for (int k = 1; k <= 300; k++) {
            Hand.due("16: 1/7 " + k, x.behind(6, k), "142857".charAt((k - 1) % 6) - '0');
            int want = above.multiply(ten(k)).divide(below).mod(BigInteger.TEN).intValue();
            Hand.due("16: long " + k, x.behind(7, k), want);
        }
        for (int none : NO_REGISTERS) {
            throwsUp("16: a " + none, x, () -> x.behind(none, 1), REFUSED);
        }
        throwsUp("16: 0", x, () -> x.behind(0, 0), REFUSED);
        throwsUp("16: -1", x, () -> x.behind(0, -1), REFUSED);
        throwsUp("16: 301", x, () -> x.behind(0, 301), REFUSED);
    }

    private static void modulo() {
        WallFractions x = filled();
        Hand.due("17: without sign", x.modulo(5, 0, 7), 5);
        Hand.due("17: below", x.modulo(1, 1, 2), 1);
        Hand.due("17: of 0", x.modulo(2, 0, 1_000_000_000), 0);
        Hand.due("17: by 1", x.modulo(3, 0, 1), 0);
        int[] moduli = {2, 3, 7, 1000, 65536, 999_999_937, 999_999_999, 1_000_000_000};
        for (int m : moduli) {
            int want = GREATEST.mod(BigInteger.valueOf(m)).intValue();
            Hand.due("17: above by " + m, x.modulo(3, 0, m), want);
            Hand.due("17: below by " + m, x.modulo(4, 1, m), want);
        }
        for (int none : NO_REGISTERS) {
            throwsUp("17: a " + none, x, () -> x.modulo(none, 0, 1), REFUSED);
        }
        throwsUp("17: part -1", x, () -> x.modulo(0, -1, 5), REFUSED);
        throwsUp("17: part 2", x, () -> x.modulo(0, 2, 5), REFUSED);
        throwsUp("17: by 0", x, () -> x.modulo(0, 0, 0), REFUSED);
        throwsUp("17: by -1", x, () -> x.modulo(0, 0, -1), REFUSED);
        throwsUp("17: by 10^9 + 1", x, () -> x.modulo(0, 0, 1_000_000_001), REFUSED);
    }

    private static void weight() {
        WallFractions x = new WallFractions();
        for (int k = 0; k < 10; k++) {
            Hand.due("18: at first " + k, x.weight(k, 1_000_000_000 - k), 0);
        }
        for (int k = 0; k < 10; k++) {
            Hand.due("18: what it was " + k, x.weight(k, 0), 1_000_000_000 - k);
        }
        Hand.due("18: 0 again", x.weight(3, 5), 0);
        for (int none : new int[] {-1, 10, Integer.MIN_VALUE, Integer.MAX_VALUE}) {
            throwsUp("18: k " + none, x, () -> x.weight(none, 1), REFUSED);
        }
        throwsUp("18: -1", x, () -> x.weight(3, -1), REFUSED);
        throwsUp("18: 10^9 + 1", x, () -> x.weight(3, 1_000_000_001), REFUSED);
        Hand.due("18: as it was", x.weight(3, 0), 5);
    }

    /** The ten shares of the number by the weights, as one text. */
    private static String shares(BigInteger number, int... weights) {
        WallFractions x = new WallFractions();
        for (int k = 0; k < weights.length; k++) {
            x.weight(k, weights[k]);
        }
        Hand.load(x, 3, number);
        StringBuilder text = new StringBuilder();
        for (int k = 0; k < 10; k++) {
            x.set(4, -5, 3);
            x.share(4, 3, k);
            text.append(Hand.read(x, 4)).append(k < 9 ? " " : "");
        }
        Hand.due("19: the number stays", Hand.read(x, 3), number.toString());
        return text.toString();
    }

    private static void share() {
        BigInteger hundred = BigInteger.valueOf(100);
        Hand.due("19: thirds", shares(hundred, 1, 1, 1), "34 33 33 0 0 0 0 0 0 0");
        Hand.due("19: the last alone", shares(hundred, 0, 0, 0, 0, 0, 0, 0, 0, 0, 7), "0 0 0 0 0 0 0 0 0 100");
        Hand.due("19: one of weight 1", shares(hundred, 0, 1), "0 100 0 0 0 0 0 0 0 0");
        Hand.due("19: by the greatest rest", shares(BigInteger.TEN, 1, 3, 3), "2 4 4 0 0 0 0 0 0 0");
        Hand.due("19: rest ahead of number", shares(BigInteger.TEN, 5, 1, 1), "7 2 1 0 0 0 0 0 0 0");
        Hand.due("19: later with greater rest", shares(BigInteger.valueOf(5), 1, 2), "2 3 0 0 0 0 0 0 0 0");
        Hand.due("19: one for ten", shares(BigInteger.ONE, 1, 1, 1, 1, 1, 1, 1, 1, 1, 1), "1 0 0 0 0 0 0 0 0 0");
        Hand.due("19: nine for ten", shares(BigInteger.valueOf(9), 1, 1, 1, 1, 1, 1, 1, 1, 1, 1),
            "1 1 1 1 1 1 1 1 1 0");
        Hand.due("19: one by rank", shares(BigInteger.ONE, 1, 2, 3, 4, 4, 0), "0 0 0 1 0 0 0 0 0 0");
        Hand.due("19: no one for weight 0", shares(BigInteger.ONE, 0, 1, 1), "0 1 0 0 0 0 0 0 0 0");
        Hand.due("19: of 0", shares(BigInteger.ZERO, 1, 2, 3), "0 0 0 0 0 0 0 0 0 0");
        WallFractions x = filled();
        x.set(6, 11, 1);
        x.set(7, -1, 3);
        sees("19: into itself", x, () -> x.share(6, 6, 0), 6, "8");
    }

    private static void shareAtLength() {
        int most = 1_000_000_000;
        Hand.due("19: the longest", shares(GREATEST, 0, 0, most), "0 0 " + GREATEST + " 0 0 0 0 0 0 0");
        BigInteger tenth = GREATEST.divide(BigInteger.TEN);
        StringBuilder want = new StringBuilder();
        for (int k = 0; k < 10; k++) {
            want.append(k < 9 ? tenth.add(BigInteger.ONE) + " " : tenth.toString());
        }
        Hand.due("19: the greatest weights", shares(GREATEST, most, most, most, most, most, most, most, most, most,
            most), want.toString());
        BigInteger all = BigInteger.valueOf(most).multiply(BigInteger.TEN).subtract(BigInteger.ONE);
        BigInteger number = all.multiply(ten(160)).subtract(BigInteger.ONE);
        BigInteger each = ten(169);
        Hand.due("19: rests near the sum", shares(number, most - 1, most, most, most, most, most, most, most, most,
            most), each.subtract(ten(160)) + (" " + each).repeat(8) + " " + each.subtract(BigInteger.ONE));
    }

    private static void shareRefuses() {
        WallFractions x = filled();
        for (int none : NO_REGISTERS) {
            throwsUp("19: r " + none, x, () -> x.share(none, 1, 0), REFUSED);
            throwsUp("19: a " + none, x, () -> x.share(0, none, 0), REFUSED);
        }
        throwsUp("19: k -1", x, () -> x.share(6, 1, -1), REFUSED);
        throwsUp("19: k 10", x, () -> x.share(6, 1, 10), REFUSED);
        throwsUp("19: not whole", x, () -> x.share(6, 0, 0), STATE);
        throwsUp("19: below 0", x, () -> x.share(6, 5, 0), STATE);
        throwsUp("19: below 0 and not whole", x, () -> x.share(6, 1, 0), STATE);
        throwsUp("19: below 0, weight 0", x, () -> x.share(6, 5, 4), STATE);
        x.weight(0, 0);
        x.weight(9, 0);
        throwsUp("19: all weights 0", x, () -> x.share(6, 3, 0), ARITHMETIC);
        throwsUp("19: all weights 0 ahead of below 0", x, () -> x.share(6, 1, 0), ARITHMETIC);
        throwsUp("19: k ahead of all weights 0", x, () -> x.share(6, 3, 10), REFUSED);
    }
}

import java.io.IOException;
import java.math.BigInteger;

/** Each promise of the document, sentence by sentence: ordinary inputs, edges, and wrong inputs. */
public final class PromisesTest extends Scene {
    private static final String NINES = Hand.NINES.toString();
    private static final String ARGUMENT = "IllegalArgumentException.";

    private PromisesTest() {
    }

    public static void main(String[] args) throws IOException {
        promise1();
        promise2();
        promise3();
        promises4To6();
        promise7();
        promise8();
        promise9();
        promise10();
        promise11();
        promises12And13();
        promises14And15();
        promise16();
        promise17();
        promise18();
        promise19();
        Hand.end();
    }

    /** What a call tells of an unchanged filled object. */
    private static void each(String wants, Act... acts) {
        String[] words = wants.split(" ");
        Hand.due("as many answers as calls", acts.length, words.length);
        for (int i = 0; i < acts.length; i++) {
            tells(words[i], acts[i]);
        }
    }

    // Promise 1: a new object.

    private static void promise1() throws IOException {
        Sentences said = new Sentences("Promise 1: A new object");
        said.hold("All registers and weights are 0.", PromisesTest::newObject);
        said.end();
    }

    private static void newObject() {
        Told x = new Told();
        for (int a = 0; a < 16; a++) {
            Hand.due("register " + a, x.read(a), "0");
            Hand.due("sign " + a, x.sign(a), "0");
        }
        for (int k = 0; k < 10; k++) {
            Hand.due("weight " + k, x.weight(k, 0), "0");
        }
        Told other = filled();
        Told fresh = new Told();
        fresh.set(0, 1, 3);
        other.add(FREE, SEVEN_HALVES, MINUS_HALF);
        fresh.weight(0, 8);
        Hand.due("another new object", new Told().all(), "0 0 1, ".repeat(16) + "0 ".repeat(10));
        Hand.due("a filled one keeps its own", other.read(SEVEN_HALVES) + " " + other.read(FREE), "7/2 3");
        Hand.due("a weight of its own", other.weight(0, 0) + " " + fresh.weight(0, 0), "3 8");
        Hand.due("share of a new object", new Told().share(0, 0, 0), Hand.ARITHMETIC);
    }

    // Promise 2: set.

    private static void promise2() throws IOException {
        Sentences said = new Sentences("Promise 2: set");
        said.hold("Register r becomes above / below.", PromisesTest::set);
        said.hold("IllegalArgumentException: also if a number is -2^63;", PromisesTest::setRefusesTheLeast);
        said.hold("ArithmeticException: below is 0.", PromisesTest::setBelowZero);
        said.end();
    }

    private static void set() {
        becomes(FREE, "3/2", x -> x.set(FREE, 6, 4));
        becomes(FREE, "-3/2", x -> x.set(FREE, 6, -4));
        becomes(FREE, "-3/2", x -> x.set(FREE, -6, 4));
        becomes(FREE, "3/2", x -> x.set(FREE, -6, -4));
        becomes(FREE, "-2", x -> x.set(FREE, -6, 3));
        becomes(FREE, "0", x -> x.set(FREE, 0, 5));
        becomes(FREE, "0", x -> x.set(FREE, 0, -Long.MAX_VALUE));
        becomes(FREE, "9223372036854775807", x -> x.set(FREE, Long.MAX_VALUE, 1));
        becomes(FREE, "-9223372036854775807/2", x -> x.set(FREE, -Long.MAX_VALUE, 2));
        becomes(FREE, "-1/9223372036854775807", x -> x.set(FREE, 1, -Long.MAX_VALUE));
        becomes(FREE, "-1", x -> x.set(FREE, Long.MAX_VALUE, -Long.MAX_VALUE));
        becomes(FREE, "9223372036854775807/9223372036854775806", x -> x.set(FREE, -Long.MAX_VALUE, 1 - Long.MAX_VALUE));
        becomes(FREE, "1000000000000000000/3", x -> x.set(FREE, 1_000_000_000_000_000_000L, 3));
        becomes(FREE, "1000000000", x -> x.set(FREE, 1_000_000_000, 1));
        becomes(GREATEST, "5", x -> x.set(GREATEST, 5, 1));
    }

    private static void setRefusesTheLeast() {
        tells(Hand.REFUSED, x -> x.set(FREE, Long.MIN_VALUE, 1));
        tells(Hand.REFUSED, x -> x.set(FREE, 1, Long.MIN_VALUE));
        tells(Hand.REFUSED, x -> x.set(FREE, 0, Long.MIN_VALUE));
        tells(Hand.REFUSED, x -> x.set(FREE, Long.MIN_VALUE, 0));
        tells(Hand.REFUSED, x -> x.set(FREE, Long.MIN_VALUE, Long.MIN_VALUE));
        tells(Hand.REFUSED, x -> x.set(FREE, Long.MIN_VALUE, -1));
        becomes(FREE, "-9223372036854775807", x -> x.set(FREE, Long.MIN_VALUE + 1, 1));
        becomes(FREE, "1/9223372036854775807", x -> x.set(FREE, -1, Long.MIN_VALUE + 1));
        refusesNoRegisters(r -> x -> x.set(r, 1, 1));
    }

    private static void setBelowZero() {
        tells(Hand.ARITHMETIC, x -> x.set(FREE, 1, 0));
        tells(Hand.ARITHMETIC, x -> x.set(FREE, 0, 0));
        tells(Hand.ARITHMETIC, x -> x.set(FREE, -Long.MAX_VALUE, 0));
    }

    private interface Place {
        Act at(int r);
    }

    private static void refusesNoRegisters(Place... places) {
        for (Place place : places) {
            for (int r : NO_REGISTERS) {
                tells(Hand.REFUSED, place.at(r));
            }
        }
    }

    // Promise 3: more.

    private static void promise3() throws IOException {
        Sentences said = new Sentences("Promise 3: more");
        said.hold("Register r becomes what it is, times 10^9 and so much", PromisesTest::more);
        said.hold("(0 .. 999999999)", PromisesTest::moreBounds);
        said.hold("more (less, if it is below 0).", PromisesTest::less);
        said.hold("IllegalArgumentException;", () -> refusesNoRegisters(r -> x -> x.more(r, 1)));
        said.hold("IllegalStateException: also if it is not whole.", PromisesTest::moreOfNoWhole);
        said.end();
    }

    private static void more() {
        becomes(ZERO, "5", x -> x.more(ZERO, 5));
        becomes(ONE, "1000000005", x -> x.more(ONE, 5));
        becomes(ONE, "1000000005000000000", x -> x.more(ONE, 5), x -> x.more(ONE, 0));
        becomes(ZERO, "5000000000", x -> x.more(ZERO, 5), x -> x.more(ZERO, 0));
        BigInteger almost = Hand.ten(171).subtract(BigInteger.ONE);
        becomes(FREE, almost.multiply(Hand.CHUNK), x -> x.load(FREE, almost), x -> x.more(FREE, 0));
        becomes(FREE, NINES, x -> x.load(FREE, almost), x -> x.more(FREE, 999_999_999));
        tells(Hand.STATE, x -> x.load(FREE, Hand.ten(171)), x -> x.more(FREE, 0));
        tells(Hand.STATE, x -> x.more(GREATEST, 0));
    }

    private static void moreBounds() {
        becomes(ZERO, "0", x -> x.more(ZERO, 0));
        becomes(ZERO, "999999999", x -> x.more(ZERO, 999_999_999));
        becomes(TWO, "2999999999", x -> x.more(TWO, 999_999_999));
        for (int digits : new int[] {-1, 1_000_000_000, Integer.MIN_VALUE, Integer.MAX_VALUE}) {
            tells(Hand.REFUSED, x -> x.more(ZERO, digits));
            tells(Hand.REFUSED, x -> x.more(GREATEST, digits));
            tells(Hand.REFUSED, x -> x.more(MINUS_HALF, digits));
        }
    }

    private static void less() {
        becomes(MINUS_ONE, "-1000000007", x -> x.more(MINUS_ONE, 7));
        becomes(MINUS_DOZEN, "-12999999999", x -> x.more(MINUS_DOZEN, 999_999_999));
        becomes(MINUS_DOZEN, "-12000000000", x -> x.more(MINUS_DOZEN, 0));
        BigInteger almost = Hand.ten(171).subtract(BigInteger.ONE).negate();
        becomes(FREE, "-" + NINES, x -> x.load(FREE, almost), x -> x.more(FREE, 999_999_999));
        tells(Hand.STATE, x -> x.load(FREE, Hand.ten(171).negate()), x -> x.more(FREE, 0));
        tells(Hand.STATE, x -> x.more(MINUS_GREATEST, 0));
    }

    private static void moreOfNoWhole() {
        for (int digits : new int[] {0, 1, 999_999_999}) {
            tells(Hand.STATE, x -> x.more(SEVEN_HALVES, digits));
            tells(Hand.STATE, x -> x.more(MINUS_SEVEN_THIRDS, digits));
            tells(Hand.STATE, x -> x.more(LEAST, digits));
            tells(Hand.STATE, x -> x.more(TENTH, digits));
        }
        becomes(FREE, "7000000001", x -> x.add(FREE, SEVEN_HALVES, SEVEN_HALVES), x -> x.more(FREE, 1));
        // Below is 10^9 + 1, so that its lowest digits alone look like a 1.
        tells(Hand.STATE, x -> x.set(FREE, 1, 1_000_000_001), x -> x.more(FREE, 1));
    }

    // Promises 4 to 6: add, subtract, multiply.

    private static void promises4To6() throws IOException {
        Sentences add = new Sentences("Promise 4: add");
        add.hold("Register r becomes a + b.", PromisesTest::add);
        add.end();
        Sentences subtract = new Sentences("Promise 5: subtract");
        subtract.hold("Register r becomes a - b.", PromisesTest::subtract);
        subtract.end();
        Sentences multiply = new Sentences("Promise 6: multiply");
        multiply.hold("Register r becomes a * b.", PromisesTest::multiply);
        multiply.end();
    }

    private static void add() {
        becomes(FREE, "7/6", x -> x.add(FREE, SEVEN_HALVES, MINUS_SEVEN_THIRDS));
        becomes(FREE, "7/6", x -> x.add(FREE, MINUS_SEVEN_THIRDS, SEVEN_HALVES));
        becomes(FREE, "-43/3", x -> x.add(FREE, MINUS_SEVEN_THIRDS, MINUS_DOZEN));
        becomes(FREE, "-17/6", x -> x.add(FREE, MINUS_SEVEN_THIRDS, MINUS_HALF));
        becomes(FREE, "-7/3", x -> x.add(FREE, MINUS_SEVEN_THIRDS, ZERO));
        becomes(FREE, "-7/3", x -> x.add(FREE, ZERO, MINUS_SEVEN_THIRDS));
        becomes(FREE, "0", x -> x.add(FREE, ONE, MINUS_ONE));
        becomes(FREE, "0", x -> x.add(FREE, ZERO, ZERO));
        becomes(ONE, "2", x -> x.add(ONE, ONE, ONE));
        becomes(ONE, "11", x -> x.add(ONE, ONE, TEN));
        becomes(ONE, "11", x -> x.add(ONE, TEN, ONE));
        becomes(FREE, "1000000000000000000", x -> x.set(FREE, 999_999_999_999_999_999L, 1),
            x -> x.add(FREE, FREE, ONE));
        becomes(FREE, Hand.NINES.subtract(BigInteger.ONE), x -> x.add(FREE, GREATEST, MINUS_ONE));
        becomes(FREE, "2/" + NINES, x -> x.add(FREE, LEAST, LEAST));
        tells(Hand.STATE, x -> x.add(FREE, GREATEST, ONE));
        tells(Hand.STATE, x -> x.add(GREATEST, GREATEST, GREATEST));
        tells(Hand.STATE, x -> x.add(FREE, GREATEST, LEAST));
        tells(Hand.STATE, x -> x.add(FREE, LEAST, SEVEN_HALVES));
        refusesNoRegisters(r -> x -> x.add(r, 0, 1), r -> x -> x.add(0, r, 1), r -> x -> x.add(0, 1, r));
    }

    private static void subtract() {
        becomes(FREE, "35/6", x -> x.subtract(FREE, SEVEN_HALVES, MINUS_SEVEN_THIRDS));
        becomes(FREE, "-35/6", x -> x.subtract(FREE, MINUS_SEVEN_THIRDS, SEVEN_HALVES));
        becomes(FREE, "29/3", x -> x.subtract(FREE, MINUS_SEVEN_THIRDS, MINUS_DOZEN));
        becomes(FREE, "-29/3", x -> x.subtract(FREE, MINUS_DOZEN, MINUS_SEVEN_THIRDS));
        becomes(FREE, "-7/2", x -> x.subtract(FREE, ZERO, SEVEN_HALVES));
        becomes(FREE, "7/3", x -> x.subtract(FREE, ZERO, MINUS_SEVEN_THIRDS));
        becomes(FREE, "-7/3", x -> x.subtract(FREE, MINUS_SEVEN_THIRDS, ZERO));
        becomes(FREE, "0", x -> x.subtract(FREE, GREATEST, GREATEST));
        becomes(ONE, "0", x -> x.subtract(ONE, ONE, ONE));
        becomes(ONE, "-9", x -> x.subtract(ONE, ONE, TEN));
        becomes(ONE, "9", x -> x.subtract(ONE, TEN, ONE));
        becomes(FREE, "999999999999999999", x -> x.set(FREE, 1_000_000_000_000_000_000L, 1),
            x -> x.subtract(FREE, FREE, ONE));
        becomes(FREE, Hand.NINES.subtract(BigInteger.ONE), x -> x.subtract(FREE, GREATEST, ONE));
        tells(Hand.STATE, x -> x.subtract(FREE, GREATEST, MINUS_ONE));
        tells(Hand.STATE, x -> x.subtract(FREE, MINUS_GREATEST, ONE));
        tells(Hand.STATE, x -> x.subtract(GREATEST, GREATEST, MINUS_GREATEST));
        tells(Hand.STATE, x -> x.subtract(FREE, LEAST, SEVEN_HALVES));
        refusesNoRegisters(r -> x -> x.subtract(r, 0, 1), r -> x -> x.subtract(0, r, 1),
            r -> x -> x.subtract(0, 1, r));
    }

    private static void multiply() {
        becomes(FREE, "-49/6", x -> x.multiply(FREE, SEVEN_HALVES, MINUS_SEVEN_THIRDS));
        becomes(FREE, "-42", x -> x.multiply(FREE, SEVEN_HALVES, MINUS_DOZEN));
        becomes(FREE, "28", x -> x.multiply(FREE, MINUS_SEVEN_THIRDS, MINUS_DOZEN));
        becomes(FREE, "0", x -> x.multiply(FREE, MINUS_SEVEN_THIRDS, ZERO));
        becomes(FREE, "0", x -> x.multiply(FREE, ZERO, GREATEST));
        becomes(FREE, "0", x -> x.multiply(FREE, ZERO, LEAST));
        becomes(FREE, "1", x -> x.multiply(FREE, GREATEST, LEAST));
        becomes(FREE, "-1", x -> x.multiply(FREE, LEAST, MINUS_GREATEST));
        becomes(TEN, "100", x -> x.multiply(TEN, TEN, TEN));
        becomes(TEN, "20", x -> x.multiply(TEN, TEN, TWO));
        becomes(TEN, "20", x -> x.multiply(TEN, TWO, TEN));
        becomes(FREE, "-" + NINES, x -> x.multiply(FREE, MINUS_GREATEST, ONE));
        tells(Hand.STATE, x -> x.multiply(FREE, GREATEST, TWO));
        tells(Hand.STATE, x -> x.multiply(GREATEST, GREATEST, GREATEST));
        tells(Hand.STATE, x -> x.multiply(FREE, LEAST, TENTH));
        tells(Hand.STATE, x -> x.multiply(LEAST, LEAST, LEAST));
        refusesNoRegisters(r -> x -> x.multiply(r, 0, 1), r -> x -> x.multiply(0, r, 1),
            r -> x -> x.multiply(0, 1, r));
    }

    // Promise 7: divide.

    private static void promise7() throws IOException {
        Sentences said = new Sentences("Promise 7: divide");
        said.hold("Register r becomes a / b.", PromisesTest::divide);
        said.hold("ArithmeticException: b is 0.", PromisesTest::divideByZero);
        said.end();
    }

    private static void divide() {
        becomes(FREE, "-3/2", x -> x.divide(FREE, SEVEN_HALVES, MINUS_SEVEN_THIRDS));
        becomes(FREE, "-2/3", x -> x.divide(FREE, MINUS_SEVEN_THIRDS, SEVEN_HALVES));
        becomes(FREE, "7/36", x -> x.divide(FREE, MINUS_SEVEN_THIRDS, MINUS_DOZEN));
        becomes(FREE, "0", x -> x.divide(FREE, ZERO, MINUS_SEVEN_THIRDS));
        becomes(FREE, "1", x -> x.divide(FREE, GREATEST, GREATEST));
        becomes(FREE, "-1", x -> x.divide(FREE, MINUS_GREATEST, GREATEST));
        becomes(FREE, NINES, x -> x.divide(FREE, ONE, LEAST));
        becomes(FREE, "1/" + NINES, x -> x.divide(FREE, ONE, GREATEST));
        becomes(TEN, "1", x -> x.divide(TEN, TEN, TEN));
        becomes(TEN, "5", x -> x.divide(TEN, TEN, TWO));
        becomes(TEN, "1/5", x -> x.divide(TEN, TWO, TEN));
        tells(Hand.STATE, x -> x.divide(GREATEST, GREATEST, LEAST));
        tells(Hand.STATE, x -> x.divide(FREE, GREATEST, TENTH));
        tells(Hand.STATE, x -> x.divide(LEAST, LEAST, GREATEST));
        tells(Hand.STATE, x -> x.divide(FREE, LEAST, TEN));
        refusesNoRegisters(r -> x -> x.divide(r, 0, 1), r -> x -> x.divide(0, r, 1), r -> x -> x.divide(0, 1, r));
    }

    private static void divideByZero() {
        tells(Hand.ARITHMETIC, x -> x.divide(FREE, ONE, ZERO));
        tells(Hand.ARITHMETIC, x -> x.divide(FREE, MINUS_HALF, ZERO));
        tells(Hand.ARITHMETIC, x -> x.divide(FREE, GREATEST, ZERO));
        tells(Hand.ARITHMETIC, x -> x.divide(ZERO, ZERO, ZERO));
        tells(Hand.ARITHMETIC, x -> x.subtract(FREE, LEAST, LEAST), x -> x.divide(FREE, ONE, FREE));
    }

    // Promise 8: power.

    private static void promise8() throws IOException {
        Sentences said = new Sentences("Promise 8: power");
        said.hold("Register r becomes a to the n-th", PromisesTest::power);
        said.hold("(0 .. 200;", PromisesTest::powerBounds);
        said.hold("0^0 is 1).", PromisesTest::powerOfZero);
        said.end();
    }

    private static void power() {
        becomes(FREE, "49/4", x -> x.power(FREE, SEVEN_HALVES, 2));
        becomes(FREE, "-343/27", x -> x.power(FREE, MINUS_SEVEN_THIRDS, 3));
        becomes(FREE, "2401/81", x -> x.power(FREE, MINUS_SEVEN_THIRDS, 4));
        becomes(FREE, NINES, x -> x.power(FREE, GREATEST, 1));
        becomes(FREE, "-" + NINES, x -> x.power(FREE, MINUS_GREATEST, 1));
        becomes(FREE, "1/" + NINES, x -> x.power(FREE, LEAST, 1));
        becomes(TWO, "1024", x -> x.power(TWO, TWO, 10));
        becomes(FREE, Hand.ten(179), x -> x.power(FREE, TEN, 179));
        becomes(FREE, "1/" + Hand.ten(179), x -> x.power(FREE, TENTH, 179));
        tells(Hand.STATE, x -> x.power(FREE, TEN, 180));
        tells(Hand.STATE, x -> x.power(FREE, TENTH, 180));
        tells(Hand.STATE, x -> x.power(GREATEST, GREATEST, 2));
        tells(Hand.STATE, x -> x.power(LEAST, LEAST, 200));
        tells(Hand.STATE, x -> x.power(FREE, MINUS_DOZEN, 167));
        becomes(FREE, big(12).pow(166), x -> x.power(FREE, MINUS_DOZEN, 166));
        for (int n = 0; n <= 20; n++) {
            int now = n;
            becomes(FREE, Hand.fraction(big(-3).pow(n), big(7).pow(n)), x -> x.set(FREE, -3, 7),
                x -> x.power(FREE, FREE, now));
        }
        refusesNoRegisters(r -> x -> x.power(r, 0, 1), r -> x -> x.power(0, r, 1), r -> x -> x.power(0, r, 0));
    }

    private static void powerBounds() {
        becomes(FREE, "1", x -> x.power(FREE, MINUS_SEVEN_THIRDS, 0));
        becomes(FREE, "1", x -> x.power(FREE, GREATEST, 0));
        becomes(FREE, "1", x -> x.power(FREE, MINUS_ONE, 200));
        becomes(FREE, "-1", x -> x.power(FREE, MINUS_ONE, 199));
        becomes(FREE, Hand.fraction(big(7).pow(200), big(6).pow(200)), x -> x.set(FREE, -7, 6),
            x -> x.power(FREE, FREE, 200));
        for (int n : new int[] {-1, 201, 256, 257, Integer.MIN_VALUE, Integer.MAX_VALUE}) {
            tells(Hand.REFUSED, x -> x.power(FREE, ONE, n));
            tells(Hand.REFUSED, x -> x.power(FREE, ZERO, n));
            tells(Hand.REFUSED, x -> x.power(FREE, GREATEST, n));
        }
    }

    private static void powerOfZero() {
        becomes(FREE, "1", x -> x.power(FREE, ZERO, 0));
        becomes(ZERO, "1", x -> x.power(ZERO, ZERO, 0));
        becomes(FREE, "0", x -> x.power(FREE, ZERO, 1));
        becomes(FREE, "0", x -> x.power(FREE, ZERO, 2));
        becomes(FREE, "0", x -> x.power(FREE, ZERO, 200));
    }

    // Promise 9: binomial.

    private static void promise9() throws IOException {
        Sentences said = new Sentences("Promise 9: binomial");
        said.hold("Register r becomes n over k,", PromisesTest::binomial);
        said.hold("which is 0 if k is below 0", PromisesTest::binomialBelowZero);
        said.hold("or above n.", PromisesTest::binomialAboveN);
        said.hold("IllegalArgumentException: n is not 0 .. 500.", PromisesTest::binomialBounds);
        said.end();
    }

    private static void binomial() {
        becomes(FREE, "10", x -> x.binomial(FREE, 5, 2));
        becomes(FREE, "10", x -> x.binomial(FREE, 5, 3));
        becomes(FREE, "5", x -> x.binomial(FREE, 5, 4));
        becomes(FREE, "232714176627630544", x -> x.binomial(FREE, 61, 30));
        becomes(GREATEST, "6", x -> x.binomial(GREATEST, 4, 2));
        becomes(MINUS_SEVEN_THIRDS, "6", x -> x.binomial(MINUS_SEVEN_THIRDS, 4, 2));
        BigInteger want = BigInteger.ONE;
        for (int k = 0; k <= 250; k++) {
            int now = k;
            String due = want.toString();
            Told x = new Told();
            Hand.due("500 over " + k, x.binomial(0, 500, now), Hand.NOTHING);
            Hand.due("500 over " + k, x.read(0), due);
            Hand.due("500 over " + (500 - k), x.binomial(1, 500, 500 - now), Hand.NOTHING);
            Hand.due("500 over " + (500 - k), x.read(1), due);
            want = want.multiply(big(500 - k)).divide(big(k + 1));
        }
    }

    private static void binomialBelowZero() {
        for (int n : new int[] {0, 1, 5, 500}) {
            for (int k : new int[] {-1, -2, -n - 1, -501, Integer.MIN_VALUE}) {
                becomes(FREE, "0", x -> x.binomial(FREE, n, k));
            }
            becomes(FREE, "1", x -> x.binomial(FREE, n, 0));
        }
    }

    private static void binomialAboveN() {
        for (int n : new int[] {0, 1, 5, 500}) {
            for (int k : new int[] {n + 1, n + 2, 501, Integer.MAX_VALUE}) {
                becomes(FREE, "0", x -> x.binomial(FREE, n, k));
            }
            becomes(FREE, "1", x -> x.binomial(FREE, n, n));
        }
    }

    private static void binomialBounds() {
        becomes(FREE, "1", x -> x.binomial(FREE, 0, 0));
        becomes(FREE, "500", x -> x.binomial(FREE, 500, 1));
        becomes(FREE, "500", x -> x.binomial(FREE, 500, 499));
        for (int n : new int[] {-1, 501, Integer.MIN_VALUE, Integer.MAX_VALUE}) {
            for (int k : new int[] {-1, 0, 1, n, 502}) {
                tells(Hand.REFUSED, x -> x.binomial(FREE, n, k));
            }
        }
        refusesNoRegisters(r -> x -> x.binomial(r, 5, 2), r -> x -> x.binomial(r, 5, -1));
    }

    // Promise 10: round.

    private static void promise10() throws IOException {
        Sentences said = new Sentences("Promise 10: round");
        said.hold("Register r becomes a with so many decimals", PromisesTest::round);
        said.hold("(0 .. 40):", PromisesTest::roundDecimals);
        said.hold("how = 0 FLOOR, 1 ROUNDED, 2 CUT.", PromisesTest::roundHow);
        said.end();
    }

    private static void rounds(String wants, long above, long below, int decimals) {
        String[] words = wants.split(" ");
        for (int how = 0; how < 3; how++) {
            int now = how;
            becomes(FREE, words[how], x -> x.set(SPARE, above, below), x -> x.round(FREE, SPARE, decimals, now));
        }
    }

    private static void round() {
        rounds("3 4 3", 7, 2, 0);
        rounds("-4 -3 -3", -7, 2, 0);
        rounds("-3 -2 -2", -7, 3, 0);
        rounds("-117/50 -233/100 -233/100", -7, 3, 2);
        rounds("157/50 157/50 157/50", 314, 100, 2);
        rounds("0 0 0", 0, 1, 40);
        rounds("-12 -12 -12", -12, 1, 3);
        becomes(SEVEN_HALVES, "3", x -> x.round(SEVEN_HALVES, SEVEN_HALVES, 0, 0));
        tells(Hand.STATE, x -> x.load(FREE, SPARE, Hand.ten(150), big(7)), x -> x.round(FREE, FREE, 31, 2));
        becomes(FREE, Hand.fraction(Hand.ten(180).divide(big(7)), Hand.ten(30)),
            x -> x.load(FREE, SPARE, Hand.ten(150), big(7)), x -> x.round(FREE, FREE, 30, 2));
        // 7 * 10^179 and 1 over 7, to a tenth: 10^180 and 1 over 10, one digit too long.
        BigInteger near = Hand.ten(179).multiply(big(7));
        Act longer = x -> x.load(FREE, SPARE, near.add(BigInteger.ONE), big(7));
        tells(Hand.STATE, longer, x -> x.round(FREE, FREE, 1, 2));
        becomes(FREE, Hand.ten(179), longer, x -> x.round(FREE, FREE, 0, 2));
        Act shorter = x -> x.load(FREE, SPARE, near.subtract(BigInteger.ONE), big(7));
        becomes(FREE, Hand.fraction(Hand.NINES, BigInteger.TEN), shorter, x -> x.round(FREE, FREE, 1, 1));
        becomes(FREE, Hand.fraction(Hand.NINES.subtract(BigInteger.ONE), BigInteger.TEN), shorter,
            x -> x.round(FREE, FREE, 1, 0));
        becomes(FREE, Hand.ten(179), x -> x.load(FREE, SPARE, Hand.NINES, BigInteger.TEN),
            x -> x.round(FREE, FREE, 0, 1));
        refusesNoRegisters(r -> x -> x.round(r, 0, 0, 0), r -> x -> x.round(0, r, 0, 0));
    }

    private static void roundDecimals() {
        BigInteger thirds = Hand.ten(40).divide(big(3));
        becomes(FREE, "-3", x -> x.round(FREE, MINUS_SEVEN_THIRDS, 0, 0));
        becomes(FREE, Hand.fraction(thirds, Hand.ten(40)), x -> x.set(SPARE, 1, 3), x -> x.round(FREE, SPARE, 40, 1));
        becomes(FREE, Hand.fraction(thirds.add(BigInteger.ONE).negate(), Hand.ten(40)), x -> x.set(SPARE, -1, 3),
            x -> x.round(FREE, SPARE, 40, 0));
        becomes(FREE, NINES, x -> x.round(FREE, GREATEST, 40, 0));
        for (int decimals = 0; decimals <= 40; decimals++) {
            int now = decimals;
            BigInteger ten = Hand.ten(decimals);
            becomes(FREE, Hand.fraction(ten.multiply(big(22)).divide(big(7)), ten), x -> x.set(SPARE, 22, 7),
                x -> x.round(FREE, SPARE, now, 2));
        }
        for (int decimals : new int[] {-1, 41, Integer.MIN_VALUE, Integer.MAX_VALUE}) {
            for (int how = 0; how < 3; how++) {
                int now = how;
                tells(Hand.REFUSED, x -> x.round(FREE, SEVEN_HALVES, decimals, now));
                tells(Hand.REFUSED, x -> x.round(FREE, ZERO, decimals, now));
            }
        }
    }

    private static void roundHow() {
        rounds("-1 0 0", -1, 2, 0);
        rounds("0 1 0", 1, 2, 0);
        rounds("-1 -1 0", -51, 100, 0);
        rounds("0 0 0", 49, 100, 0);
        rounds("1999/1000 2 1999/1000", 19995, 10000, 3);
        for (int how : new int[] {-1, 3, Integer.MIN_VALUE, Integer.MAX_VALUE}) {
            tells(Hand.REFUSED, x -> x.round(FREE, SEVEN_HALVES, 0, how));
            tells(Hand.REFUSED, x -> x.round(FREE, ZERO, 40, how));
        }
    }

    // Promise 11: root.

    private static void promise11() throws IOException {
        Sentences said = new Sentences("Promise 11: root");
        said.hold("Register r becomes THE ROOT of a, to so many decimals", PromisesTest::root);
        said.hold("(0 .. 40).", PromisesTest::rootDecimals);
        said.hold("ArithmeticException: a is below 0.", PromisesTest::rootBelowZero);
        said.end();
    }

    private static void root() {
        becomes(FREE, "7/5", x -> x.root(FREE, TWO, 1));
        becomes(FREE, "3", x -> x.root(FREE, SPARE, 5));
        becomes(FREE, "10", x -> x.root(FREE, HUNDRED, 0));
        becomes(HUNDRED, "10", x -> x.root(HUNDRED, HUNDRED, 0));
        becomes(FREE, "187/100", x -> x.root(FREE, SEVEN_HALVES, 2));
        becomes(FREE, "79/250", x -> x.root(FREE, TENTH, 3));
        becomes(FREE, "0", x -> x.root(FREE, LEAST, 40));
        becomes(FREE, Hand.ten(90).subtract(BigInteger.ONE), x -> x.root(FREE, GREATEST, 0));
        refusesNoRegisters(r -> x -> x.root(r, 0, 0), r -> x -> x.root(0, r, 0));
    }

    private static void rootDecimals() {
        for (int decimals = 0; decimals <= 40; decimals++) {
            int now = decimals;
            BigInteger ten = Hand.ten(decimals);
            becomes(FREE, Hand.fraction(ten.multiply(ten).multiply(BigInteger.TWO).sqrt(), ten),
                x -> x.root(FREE, TWO, now));
        }
        for (int decimals : new int[] {-1, 41, Integer.MIN_VALUE, Integer.MAX_VALUE}) {
            tells(Hand.REFUSED, x -> x.root(FREE, TWO, decimals));
            tells(Hand.REFUSED, x -> x.root(FREE, ZERO, decimals));
            tells(Hand.REFUSED, x -> x.root(FREE, MINUS_ONE, decimals));
        }
    }

    private static void rootBelowZero() {
        tells(Hand.ARITHMETIC, x -> x.root(FREE, MINUS_ONE, 0));
        tells(Hand.ARITHMETIC, x -> x.root(MINUS_HALF, MINUS_HALF, 40));
        tells(Hand.ARITHMETIC, x -> x.root(FREE, MINUS_GREATEST, 0));
        tells(Hand.ARITHMETIC, x -> x.subtract(FREE, ZERO, LEAST), x -> x.root(FREE, FREE, 0));
        becomes(FREE, "0", x -> x.root(FREE, ZERO, 0));
        becomes(FREE, "0", x -> x.root(FREE, ZERO, 40));
    }

    // Promises 12 and 13: compare, sign.

    private static void promises12And13() throws IOException {
        Sentences compare = new Sentences("Promise 12: compare");
        compare.hold("-1, 0 or 1: a is below, as, above b.", PromisesTest::compare);
        compare.hold(ARGUMENT, () -> refusesNoRegisters(r -> x -> x.compare(r, 0), r -> x -> x.compare(0, r),
            r -> x -> x.compare(r, r)));
        compare.end();
        Sentences sign = new Sentences("Promise 13: sign");
        sign.hold("-1, 0 or 1.", PromisesTest::sign);
        sign.hold(ARGUMENT, () -> refusesNoRegisters(r -> x -> x.sign(r)));
        sign.end();
    }

    private static void compare() {
        int[] rising = {MINUS_GREATEST, MINUS_DOZEN, MINUS_SEVEN_THIRDS, MINUS_ONE, MINUS_HALF, ZERO, LEAST, TENTH,
            FREE, ONE, TWO, SEVEN_HALVES, SPARE, TEN, HUNDRED, GREATEST};
        for (int i = 0; i < 16; i++) {
            for (int j = 0; j < 16; j++) {
                int a = rising[i];
                int b = rising[j];
                tells(Integer.compare(i, j), x -> x.compare(a, b));
            }
        }
        BigInteger even = Hand.NINES.subtract(BigInteger.ONE);
        Act near = x -> x.load(FREE, SPARE, even, Hand.NINES);
        Act nearer = x -> x.load(TEN, SPARE, even.subtract(BigInteger.ONE), even);
        tells("1", near, nearer, x -> x.compare(FREE, TEN));
        tells("-1", near, nearer, x -> x.compare(TEN, FREE));
        tells("-1", near, nearer, x -> x.subtract(FREE, ZERO, FREE), x -> x.subtract(TEN, ZERO, TEN),
            x -> x.compare(FREE, TEN));
        tells("0", x -> x.set(FREE, -14, 6), x -> x.compare(FREE, MINUS_SEVEN_THIRDS));
    }

    private static void sign() {
        each("1 -1 0 1 1 -1 -1 -1", x -> x.sign(SEVEN_HALVES), x -> x.sign(MINUS_SEVEN_THIRDS), x -> x.sign(ZERO),
            x -> x.sign(GREATEST), x -> x.sign(LEAST), x -> x.sign(MINUS_DOZEN), x -> x.sign(MINUS_HALF),
            x -> x.sign(MINUS_GREATEST));
        tells("0", x -> x.subtract(FREE, LEAST, LEAST), x -> x.sign(FREE));
        tells("-1", x -> x.subtract(FREE, ZERO, LEAST), x -> x.sign(FREE));
    }

    // Promises 14 and 15: digits, digit.

    private static void promises14And15() throws IOException {
        Sentences digits = new Sentences("Promise 14: digits");
        digits.hold("How many DIGITS above (part 0) or below (1) has.", PromisesTest::digits);
        digits.hold(ARGUMENT, PromisesTest::digitsRefuse);
        digits.end();
        Sentences digit = new Sentences("Promise 15: digit");
        digit.hold("DIGIT k of above or below.", PromisesTest::digit);
        digit.hold("IllegalArgumentException;", PromisesTest::digitRefuses);
        digit.hold("IndexOutOfBoundsException: there is none such.", PromisesTest::noSuchDigit);
        digit.end();
    }

    private static void digits() {
        each("1 1 1 1 2 1 180 1 1 180", x -> x.digits(SEVEN_HALVES, 0), x -> x.digits(SEVEN_HALVES, 1),
            x -> x.digits(ZERO, 0), x -> x.digits(ZERO, 1), x -> x.digits(MINUS_DOZEN, 0),
            x -> x.digits(MINUS_DOZEN, 1), x -> x.digits(GREATEST, 0), x -> x.digits(GREATEST, 1),
            x -> x.digits(LEAST, 0), x -> x.digits(LEAST, 1));
        for (int length = 1; length <= 180; length++) {
            Told x = new Told();
            x.load(0, Hand.ten(length - 1));
            x.load(1, Hand.ten(length).subtract(BigInteger.ONE).negate());
            x.set(2, 1, 1);
            x.divide(3, 2, 0);
            x.divide(4, 2, 1);
            Hand.due("digits of 10^" + (length - 1), x.digits(0, 0), "" + length);
            Hand.due("digits below of its inverse", x.digits(3, 1), "" + length);
            Hand.due("digits of -10^" + length + " + 1", x.digits(1, 0), "" + length);
            Hand.due("digits below of its inverse", x.digits(4, 1), "" + length);
        }
    }

    private static void digitsRefuse() {
        refusesNoRegisters(r -> x -> x.digits(r, 0), r -> x -> x.digits(r, 1));
        for (int part : new int[] {-1, 2, Integer.MIN_VALUE, Integer.MAX_VALUE}) {
            tells(Hand.REFUSED, x -> x.digits(SEVEN_HALVES, part));
        }
    }

    private static void digit() {
        String text = "9876543210".repeat(18);
        Told x = new Told();
        x.load(0, new BigInteger(text).negate());
        x.set(1, 1, 1);
        x.divide(1, 1, 0);
        for (int k = 0; k < 180; k++) {
            String want = text.substring(179 - k, 180 - k);
            Hand.due("digit " + k + " above", x.digit(0, 0, k), want);
            Hand.due("digit " + k + " below", x.digit(1, 1, k), want);
        }
        each("7 2 0 1 2 1 9", y -> y.digit(SEVEN_HALVES, 0, 0), y -> y.digit(SEVEN_HALVES, 1, 0),
            y -> y.digit(ZERO, 0, 0), y -> y.digit(ZERO, 1, 0), y -> y.digit(MINUS_DOZEN, 0, 0),
            y -> y.digit(MINUS_DOZEN, 0, 1), y -> y.digit(GREATEST, 0, 179));
    }

    private static void digitRefuses() {
        refusesNoRegisters(r -> x -> x.digit(r, 0, 0), r -> x -> x.digit(r, 1, 999));
        for (int part : new int[] {-1, 2, Integer.MIN_VALUE, Integer.MAX_VALUE}) {
            tells(Hand.REFUSED, x -> x.digit(SEVEN_HALVES, part, 0));
            tells(Hand.REFUSED, x -> x.digit(SEVEN_HALVES, part, 999));
            tells(Hand.REFUSED, x -> x.digit(SEVEN_HALVES, part, -1));
        }
    }

    private static void noSuchDigit() {
        for (int k : new int[] {-1, 180, 181, 189, 400, Integer.MIN_VALUE, Integer.MAX_VALUE}) {
            tells(Hand.INDEX, x -> x.digit(GREATEST, 0, k));
            tells(Hand.INDEX, x -> x.digit(LEAST, 1, k));
        }
        for (int k : new int[] {-1, 1, 9, 180}) {
            tells(Hand.INDEX, x -> x.digit(ZERO, 0, k));
            tells(Hand.INDEX, x -> x.digit(ZERO, 1, k));
            tells(Hand.INDEX, x -> x.digit(GREATEST, 1, k));
            tells(Hand.INDEX, x -> x.digit(LEAST, 0, k));
        }
        tells(Hand.INDEX, x -> x.digit(MINUS_DOZEN, 0, 2));
        // A long number was here before: its digits are gone.
        tells(Hand.INDEX, x -> x.add(GREATEST, ONE, ONE), x -> x.digit(GREATEST, 0, 1));
    }

    // Promise 16: behind.

    private static void promise16() throws IOException {
        Sentences said = new Sentences("Promise 16: behind");
        said.hold("The k-th digit", PromisesTest::behind);
        said.hold("(1 .. 300)", PromisesTest::behindBounds);
        said.hold("behind the point of a without its sign.", PromisesTest::behindWithoutSign);
        said.hold(ARGUMENT, () -> refusesNoRegisters(r -> x -> x.behind(r, 1), r -> x -> x.behind(r, 0)));
        said.end();
    }

    private static void behind() {
        BigInteger above = new BigInteger("271828182845904523536028747135266249775724709369995957496696762772");
        BigInteger below = new BigInteger("31415926535897932384626433832795028841971693993751058209749445923078164");
        Told x = new Told();
        x.load(0, 15, above, below);
        for (int k = 1; k <= 300; k++) {
            String want = above.multiply(Hand.ten(k)).divide(below).mod(BigInteger.TEN).toString();
            Hand.due("digit " + k + " behind the point", x.behind(0, k), want);
        }
        Told y = filled();
        for (int k = 1; k <= 300; k++) {
            Hand.due("digit " + k + " of the least", y.behind(LEAST, k), k == 180 ? "1" : "0");
        }
        each("5 0 0 0 1 0 0 0", z -> z.behind(SEVEN_HALVES, 1), z -> z.behind(SEVEN_HALVES, 2), z -> z.behind(ZERO, 1),
            z -> z.behind(GREATEST, 1), z -> z.behind(TENTH, 1), z -> z.behind(TENTH, 2), z -> z.behind(HUNDRED, 300),
            z -> z.behind(ZERO, 300));
        tells("9", z -> z.set(FREE, 1999, 1000), z -> z.behind(FREE, 3));
    }

    private static void behindBounds() {
        tells("8", x -> x.behind(FREE, 1));
        tells("3", x -> x.behind(FREE, 300));
        for (int k : new int[] {0, -1, 301, Integer.MIN_VALUE, Integer.MAX_VALUE}) {
            tells(Hand.REFUSED, x -> x.behind(FREE, k));
            tells(Hand.REFUSED, x -> x.behind(ZERO, k));
        }
    }

    private static void behindWithoutSign() {
        each("3 3 5 0 0", x -> x.behind(MINUS_SEVEN_THIRDS, 1), x -> x.behind(MINUS_SEVEN_THIRDS, 300),
            x -> x.behind(MINUS_HALF, 1), x -> x.behind(MINUS_HALF, 2), x -> x.behind(MINUS_DOZEN, 1));
        Told x = new Told();
        x.set(0, -1, 7);
        for (int k = 1; k <= 300; k++) {
            Hand.due("digit " + k + " of -1/7", x.behind(0, k), "" + "142857".charAt((k - 1) % 6));
        }
    }

    // Promise 17: modulo.

    private static void promise17() throws IOException {
        Sentences said = new Sentences("Promise 17: modulo");
        said.hold("A whole number without sign modulo m", PromisesTest::moduloWithoutSign);
        said.hold("(1 .. 10^9):", PromisesTest::moduloBounds);
        said.hold("of above or below.", PromisesTest::moduloParts);
        said.hold(ARGUMENT, PromisesTest::moduloRefuses);
        said.end();
    }

    private static void moduloWithoutSign() {
        each("5 0 1 0 9", x -> x.modulo(MINUS_DOZEN, 0, 7), x -> x.modulo(MINUS_DOZEN, 0, 12),
            x -> x.modulo(MINUS_ONE, 0, 1_000_000_000), x -> x.modulo(ZERO, 0, 7),
            x -> x.modulo(MINUS_GREATEST, 0, 10));
    }

    private static void moduloBounds() {
        each("0 0 0 999999999 0 1 1", x -> x.modulo(GREATEST, 0, 1), x -> x.modulo(ZERO, 0, 1),
            x -> x.modulo(LEAST, 1, 1), x -> x.modulo(GREATEST, 0, 1_000_000_000),
            x -> x.modulo(ZERO, 0, 1_000_000_000), x -> x.modulo(ZERO, 1, 1_000_000_000), x -> x.modulo(ONE, 0, 2));
        for (int m : new int[] {0, -1, 1_000_000_001, Integer.MIN_VALUE, Integer.MAX_VALUE}) {
            tells(Hand.REFUSED, x -> x.modulo(SEVEN_HALVES, 0, m));
            tells(Hand.REFUSED, x -> x.modulo(ZERO, 1, m));
        }
    }

    private static void moduloParts() {
        tells("2", x -> x.modulo(SEVEN_HALVES, 0, 5));
        tells("0", x -> x.modulo(SEVEN_HALVES, 1, 2));
        for (int m : new int[] {2, 3, 7, 1000, 65536, 999_999_937, 999_999_998, 999_999_999, 1_000_000_000}) {
            String want = Hand.NINES.mod(big(m)).toString();
            tells(want, x -> x.modulo(GREATEST, 0, m));
            tells(want, x -> x.modulo(LEAST, 1, m));
            tells("1", x -> x.modulo(LEAST, 0, m));
        }
    }

    private static void moduloRefuses() {
        refusesNoRegisters(r -> x -> x.modulo(r, 0, 1), r -> x -> x.modulo(r, 1, 0));
        for (int part : new int[] {-1, 2, Integer.MIN_VALUE, Integer.MAX_VALUE}) {
            tells(Hand.REFUSED, x -> x.modulo(SEVEN_HALVES, part, 5));
        }
    }

    // Promise 18: weight.

    private static void promise18() throws IOException {
        Sentences said = new Sentences("Promise 18: weight");
        said.hold("A WEIGHT: what it was.", PromisesTest::weight);
        said.hold(ARGUMENT, PromisesTest::weightRefuses);
        said.end();
    }

    private static void weight() {
        Told x = new Told();
        for (int k = 0; k < 10; k++) {
            Hand.due("weight " + k + " at first", x.weight(k, 1_000_000_000 - k), "0");
        }
        for (int k = 0; k < 10; k++) {
            Hand.due("weight " + k + " what it was", x.weight(k, 0), "" + (1_000_000_000 - k));
        }
        Hand.due("weight 3 was 0 again", x.weight(3, 5), "0");
        Hand.due("weight 3 the same again", x.weight(3, 5), "5");
        Told y = filled();
        Hand.due("weight 9 what it was", y.weight(9, 4), "1");
        Hand.due("weight 9 what it was", y.weight(9, 1), "4");
        Hand.due("all but weight 9", y.all(), filled().all());
    }

    private static void weightRefuses() {
        for (int k : new int[] {-1, 10, Integer.MIN_VALUE, Integer.MAX_VALUE}) {
            tells(Hand.REFUSED, x -> x.weight(k, 1));
            tells(Hand.REFUSED, x -> x.weight(k, 0));
        }
        for (int w : new int[] {-1, 1_000_000_001, Integer.MIN_VALUE, Integer.MAX_VALUE}) {
            tells(Hand.REFUSED, x -> x.weight(0, w));
            tells(Hand.REFUSED, x -> x.weight(5, w));
        }
    }

    // Promise 19: share.

    private static void promise19() throws IOException {
        Sentences said = new Sentences("Promise 19: share");
        said.hold("Register r becomes share k of register a.", PromisesTest::share);
        said.hold("IllegalArgumentException;", PromisesTest::shareRefuses);
        said.hold("ArithmeticException: all weights are 0;", PromisesTest::shareWithoutWeights);
        said.hold("IllegalStateException: a is below 0,", PromisesTest::shareBelowZero);
        said.hold("or not whole.", PromisesTest::shareOfNoWhole);
        said.end();
    }

    private static void share() {
        becomes(FREE, "75", x -> x.share(FREE, HUNDRED, 0));
        becomes(FREE, "0", x -> x.share(FREE, HUNDRED, 1));
        becomes(FREE, "25", x -> x.share(FREE, HUNDRED, 9));
        becomes(TEN, "8", x -> x.share(TEN, TEN, 0));
        becomes(TEN, "2", x -> x.share(TEN, TEN, 9));
        becomes(MINUS_SEVEN_THIRDS, "2", x -> x.share(MINUS_SEVEN_THIRDS, TEN, 9));
        becomes(FREE, "0", x -> x.share(FREE, ZERO, 0));
        becomes(FREE, Hand.NINES.multiply(big(3)).divide(big(4)), x -> x.share(FREE, GREATEST, 0));
        becomes(GREATEST, Hand.NINES.divide(big(4)).add(BigInteger.ONE), x -> x.share(GREATEST, GREATEST, 9));
        becomes(FREE, NINES, weights(1), x -> x.share(FREE, GREATEST, 0));
    }

    private static void shareRefuses() {
        refusesNoRegisters(r -> x -> x.share(r, TEN, 0), r -> x -> x.share(FREE, r, 0));
        for (int k : new int[] {-1, 10, Integer.MIN_VALUE, Integer.MAX_VALUE}) {
            tells(Hand.REFUSED, x -> x.share(FREE, TEN, k));
            tells(Hand.REFUSED, x -> x.share(FREE, MINUS_HALF, k));
            tells(Hand.REFUSED, weights(), x -> x.share(FREE, TEN, k));
        }
    }

    private static void shareWithoutWeights() {
        for (int k = 0; k < 10; k++) {
            int now = k;
            tells(Hand.ARITHMETIC, weights(), x -> x.share(FREE, HUNDRED, now));
            int[] one = new int[10];
            one[k] = 1;
            becomes(FREE, "100", weights(one), x -> x.share(FREE, HUNDRED, now));
            becomes(FREE, "0", weights(one), x -> x.share(FREE, HUNDRED, (now + 1) % 10));
        }
        tells(Hand.ARITHMETIC, weights(), x -> x.share(FREE, ZERO, 0));
        tells(Hand.ARITHMETIC, weights(), x -> x.share(FREE, MINUS_ONE, 0));
        tells(Hand.ARITHMETIC, weights(), x -> x.share(FREE, SEVEN_HALVES, 0));
        Told x = new Told();
        Hand.due("share of a new object", x.share(0, 0, 0), Hand.ARITHMETIC);
    }

    private static void shareBelowZero() {
        for (int k : new int[] {0, 4, 9}) {
            tells(Hand.STATE, x -> x.share(FREE, MINUS_ONE, k));
            tells(Hand.STATE, x -> x.share(FREE, MINUS_DOZEN, k));
            tells(Hand.STATE, x -> x.share(MINUS_GREATEST, MINUS_GREATEST, k));
            becomes(FREE, "0", x -> x.share(FREE, ZERO, k));
        }
    }

    private static void shareOfNoWhole() {
        for (int k : new int[] {0, 4, 9}) {
            tells(Hand.STATE, x -> x.share(FREE, SEVEN_HALVES, k));
            tells(Hand.STATE, x -> x.share(FREE, MINUS_HALF, k));
            tells(Hand.STATE, x -> x.share(LEAST, LEAST, k));
            tells(Hand.STATE, x -> x.set(FREE, 7, 1_000_000_001), x -> x.share(FREE, FREE, k));
        }
        becomes(FREE, "5", x -> x.add(FREE, SEVEN_HALVES, SEVEN_HALVES), x -> x.share(FREE, FREE, 0));
    }
}

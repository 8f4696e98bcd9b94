import java.io.IOException;
import java.io.UncheckedIOException;
import java.math.BigInteger;
import java.nio.file.Files;
import java.nio.file.Path;
import java.util.List;
import java.util.StringJoiner;
import java.util.regex.Matcher;
import java.util.regex.Pattern;

/** What the document says ahead of the promises: each sentence has its own test. */
public final class TermsTest extends Scene {
    private static final String NINES = Hand.NINES.toString();

    private TermsTest() {
    }

    public static void main(String[] args) throws IOException {
        use();
        registersAndFractions();
        blockOfTerms();
        exceptions();
        Hand.end();
    }

    private static void use() throws IOException {
        Sentences said = new Sentences("What it is");
        said.hold("Exact fractions of any length up to 180 digits: sums, products, quotients, powers, order,"
            + " roundings, digits behind the point, roots in enclosures, binomials, and shares of cents whose rests"
            + " go by rank.", TermsTest::everyLength);
        said.hold("An object is used for at most 512 calls after it has been made; what later calls answer is free.",
            TermsTest::goodForAllCalls);
        said.end();
    }

    private static Sentences terms;

    private static void registersAndFractions() throws IOException {
        terms = new Sentences("Terms");
        terms.hold("REGISTERS are 0 .. 15;", TermsTest::registers);
        terms.hold("each holds a FRACTION above / below in lowest terms,", TermsTest::lowestTerms);
        terms.hold("below 1 at least", TermsTest::belowIsOneAtLeast);
        terms.hold("(0 is 0 / 1;", TermsTest::zeroIsZeroOverOne);
        terms.hold("0 at first).", TermsTest::registersAtFirst);
        terms.hold("A fraction FITS if above (without its sign) and below are both less than 10^180.",
            TermsTest::fits);
        terms.hold("What is reckoned is exact;", TermsTest::exact);
        terms.hold("if it does not fit nothing changes.", TermsTest::whatDoesNotFitChangesNothing);
    }

    private static void blockOfTerms() {
        terms.hold("DIGITS of a whole number without sign: those of its decimal form, number 0 the lowest;",
            TermsTest::digits);
        terms.hold("0 has one.", TermsTest::zeroHasOneDigit);
        terms.hold("FLOOR of a fraction to d decimals is the greatest multiple of 10^-d that is not above it;",
            TermsTest::floor);
        terms.hold("ROUNDED it is the floor of the sum of it and a half of 10^-d;", TermsTest::rounded);
        terms.hold("CUT it is the floor without its sign, with its sign.", TermsTest::cut);
        terms.hold("THE ROOT of a fraction that is not below 0, to d decimals: the greatest multiple of 10^-d whose"
            + " square is not above it.", TermsTest::root);
        terms.hold("WEIGHTS 0 .. 9 are whole numbers", TermsTest::weightNumbers);
        terms.hold("(0 .. 10^9;", TermsTest::weightBounds);
        terms.hold("0 at first).", TermsTest::weightsAtFirst);
        terms.hold("SHARES of a whole number n that is not below 0,", TermsTest::sharesOfZero);
        terms.hold("by weights with a sum W above 0:", TermsTest::sumOfWeights);
        terms.hold("share k is n * weight k / W rounded down;", TermsTest::sharesWithNothingOver);
        terms.hold("what is left over is given, one each, to those with the greatest rests of these divisions,",
            TermsTest::greatestRests);
        terms.hold("of equal rests to the lesser number.", TermsTest::equalRests);
    }

    private static void exceptions() {
        terms.hold("In all calls IllegalArgumentException: a number is out of its bounds,", TermsTest::bounds);
        terms.hold("there is no such register.", TermsTest::noSuchRegister);
        terms.hold("ArithmeticException: as told.", TermsTest::arithmetic);
        terms.hold("IllegalStateException: what comes of it does not fit.", TermsTest::doesNotFit);
        terms.hold("Of several exceptions the one named first is thrown;", TermsTest::namedFirst);
        terms.hold("a call that throws changes nothing.", TermsTest::throwsAndGoesOn);
        terms.hold("Ahead of the calls `compare`, `sign`, `digits`, `digit`, `behind`, `modulo` the interface says:"
            + " ---- what is told.", () -> saidAhead("---- what is told", "compare, sign, digits, digit, behind, modulo"));
        terms.hold("Ahead of the calls `weight`, `share` the interface says: ---- shares.",
            () -> saidAhead("---- shares", "weight, share"));
        terms.end();
    }

    /** Above and below have as many digits as each other, from 1 to 180. */
    private static void everyLength() {
        for (int length = 1; length <= 180; length++) {
            BigInteger a = new BigInteger("7654321890".repeat(18).substring(0, length));
            BigInteger b = new BigInteger("5908172634".repeat(18).substring(0, length));
            Told x = new Told();
            x.load(0, a);
            x.load(1, b);
            wholes(x, a, b);
            Hand.due("the quotient", x.divide(2, 0, 1), Hand.NOTHING);
            Hand.due("the quotient", x.read(2), Hand.fraction(a, b));
            x.divide(0, 0, 1);
            fractions(x, a, b);
            seen(x, x.binomial(2, 500, length), choose(500, length), BigInteger.ONE);
        }
    }

    /** What came of the last call, which is in register 2 if it fits, in few calls. */
    private static void seen(Told x, String told, BigInteger above, BigInteger below) {
        String call = x.last() + " on " + above + " / " + below;
        String want = Hand.fraction(above, below);
        boolean fits = !want.equals(Hand.STATE);
        Hand.due(call, told, fits ? Hand.NOTHING : want);
        if (fits) {
            Hand.due(call, x.print(2), Told.printOf(want));
        }
    }

    private static void wholes(Told x, BigInteger a, BigInteger b) {
        seen(x, x.add(2, 0, 1), a.add(b), BigInteger.ONE);
        seen(x, x.subtract(2, 1, 0), b.subtract(a), BigInteger.ONE);
        seen(x, x.multiply(2, 0, 1), a.multiply(b), BigInteger.ONE);
        seen(x, x.power(2, 1, 3), b.pow(3), BigInteger.ONE);
        Hand.due("the order", x.compare(0, 1), "" + a.compareTo(b));
        x.weight(7, 1);
        x.weight(8, 1);
        x.weight(9, 1);
        seen(x, x.share(2, 0, 8), a.add(BigInteger.ONE).divide(big(3)), BigInteger.ONE);
    }

    private static void fractions(Told x, BigInteger a, BigInteger b) {
        BigInteger ten = Hand.ten(40);
        seen(x, x.round(2, 0, 40, 0), a.multiply(ten).divide(b), ten);
        for (int k = 1; k <= 300; k += 23) {
            String want = a.multiply(Hand.ten(k)).divide(b).mod(BigInteger.TEN).toString();
            Hand.due("digit " + k + " behind the point", x.behind(0, k), want);
        }
        enclosed(x, 0, 40);
        enclosed(x, 1, 0);
    }

    /** The square of the root is not above the fraction, and that of the next multiple of 10^-d is. */
    private static void enclosed(Told x, int a, int d) {
        x.set(4, 1, 10);
        Hand.due("10^-d", x.power(4, 4, d), Hand.NOTHING);
        Hand.due("the root", x.root(3, a, d), Hand.NOTHING);
        Hand.due("the next multiple", x.add(4, 3, 4), Hand.NOTHING);
        Hand.due("the root's square", x.multiply(3, 3, 3), Hand.NOTHING);
        Hand.due("the next one's square", x.multiply(4, 4, 4), Hand.NOTHING);
        Hand.due("the root's square is above", x.compare(3, a).equals("1"), false);
        Hand.due("the next one's square against it", x.compare(4, a), "1");
    }

    /** In the class, these calls and no others stand behind a comment of these words. */
    private static void saidAhead(String words, String calls) {
        StringJoiner under = new StringJoiner(", ");
        String said = "";
        for (String line : source()) {
            if (line.startsWith("    // ")) {
                said = line.substring("    // ".length());
            }
            Matcher call = Pattern.compile("    public \\w+ (\\w+)\\(.*").matcher(line);
            if (call.matches() && said.equals(words)) {
                under.add(call.group(1));
            }
        }
        Hand.due("the calls behind " + words, under.toString(), calls);
    }

    private static List<String> source() {
        try {
            return Files.readAllLines(Path.of("src/main/java/WallFractions.java"));
        } catch (IOException e) {
            throw new UncheckedIOException(e);
        }
    }

    /** Each number is 3 times the one before and 1 more, so that an answer too few shows. */
    private static void goodForAllCalls() {
        Told x = new Told();
        BigInteger want = BigInteger.ZERO;
        x.set(1, 3, 1);
        x.set(2, 1, 1);
        while (x.callsLeft() >= 190) {
            x.multiply(0, 0, 1);
            x.add(0, 0, 2);
            want = want.multiply(big(3)).add(BigInteger.ONE);
        }
        Hand.due("after many calls", x.read(0), want.toString());
        while (x.callsLeft() > 1) {
            x.add(15, 15, 2);
        }
        Hand.due("the last call but one", x.callsLeft(), 1);
        Hand.due("the 512th call", x.modulo(0, 0, Told.PRIME), want.mod(big(Told.PRIME)).toString());
    }

    private static void registers() {
        Told all = new Told();
        for (int r = 0; r < 16; r++) {
            all.set(r, -r - 1, 17);
        }
        for (int r = 0; r < 16; r++) {
            Hand.due("register " + r + " of sixteen", all.read(r), -(r + 1) + "/17");
        }
        for (int r = 0; r < 16; r++) {
            inEveryPlace(r, (r + 1) % 16);
        }
    }

    private static void is(Told x, int r, String told, String want) {
        String call = x.last();
        Hand.due(call, told, Hand.NOTHING);
        Hand.due(call + " register " + r, x.read(r), want);
    }

    /** Both registers in every place where a register is named. */
    private static void inEveryPlace(int r, int o) {
        Told x = new Told();
        is(x, r, x.set(r, 5, 1), "5");
        is(x, o, x.set(o, 2, 1), "2");
        is(x, r, x.add(r, r, o), "7");
        is(x, r, x.add(r, o, r), "9");
        is(x, r, x.subtract(r, r, o), "7");
        is(x, r, x.subtract(r, o, r), "-5");
        is(x, r, x.multiply(r, r, o), "-10");
        is(x, r, x.multiply(r, o, r), "-20");
        is(x, r, x.divide(r, r, o), "-10");
        is(x, r, x.divide(r, o, r), "-1/5");
        is(x, r, x.power(r, r, 2), "1/25");
        is(x, r, x.power(r, o, 3), "8");
        is(x, r, x.binomial(r, 6, 2), "15");
        is(x, r, x.more(r, 4), "15000000004");
        is(x, r, x.round(r, r, 1, 0), "15000000004");
        is(x, r, x.root(r, o, 1), "7/5");
        is(x, o, x.root(o, r, 1), "11/10");
        is(x, o, x.round(o, r, 0, 0), "1");
        Hand.due("compare " + r, x.compare(r, o), "1");
        Hand.due("compare " + o, x.compare(o, r), "-1");
        Hand.due("sign " + r, x.sign(r), "1");
        Hand.due("digits " + r, x.digits(r, 0), "1");
        Hand.due("digit " + r, x.digit(r, 1, 0), "5");
        Hand.due("behind " + r, x.behind(r, 1), "4");
        Hand.due("modulo " + r, x.modulo(r, 0, 4), "3");
        Hand.due("weight", x.weight(0, 1), "0");
        is(x, r, x.share(r, o, 0), "1");
        is(x, o, x.share(o, r, 1), "0");
    }

    private static void lowestTerms() {
        becomes(FREE, "3/2", x -> x.set(FREE, 6, 4));
        becomes(FREE, "2", x -> x.set(FREE, 6, 3));
        becomes(FREE, "7", x -> x.add(FREE, SEVEN_HALVES, SEVEN_HALVES));
        becomes(FREE, "4", x -> x.subtract(FREE, SEVEN_HALVES, MINUS_HALF));
        becomes(FREE, "-42", x -> x.multiply(FREE, SEVEN_HALVES, MINUS_DOZEN));
        becomes(FREE, "-3/2", x -> x.divide(FREE, SEVEN_HALVES, MINUS_SEVEN_THIRDS));
        becomes(FREE, "25/36", x -> x.power(FREE, FREE, 2));
        becomes(FREE, "7/2", x -> x.round(FREE, SEVEN_HALVES, 40, 0));
        becomes(FREE, "3/2", x -> x.set(FREE, 9, 4), x -> x.root(FREE, FREE, 40));
        // 10^100 + 1 and 4 * 10^100 - 1 over 10^179: the sum is 5 * 10^100 over 10^179.
        becomes(FREE, "1/" + Hand.ten(78).multiply(BigInteger.TWO),
            x -> x.load(FREE, SPARE, Hand.ten(100).add(BigInteger.ONE), Hand.ten(179)),
            x -> x.load(ONE, SPARE, Hand.ten(100).multiply(big(4)).subtract(BigInteger.ONE), Hand.ten(179)),
            x -> x.add(FREE, FREE, ONE));
    }

    private static void belowIsOneAtLeast() {
        becomes(FREE, "-1/4", x -> x.set(FREE, 1, -4));
        becomes(FREE, "1/4", x -> x.set(FREE, -1, -4));
        becomes(FREE, "-5", x -> x.set(FREE, 5, -1));
        becomes(FREE, "-1/12", x -> x.divide(FREE, ONE, MINUS_DOZEN));
        becomes(FREE, "1/12", x -> x.divide(FREE, MINUS_ONE, MINUS_DOZEN));
        becomes(FREE, "-1/" + NINES, x -> x.divide(FREE, ONE, MINUS_GREATEST));
    }

    private static void zeroIsZeroOverOne() {
        becomesZero(FREE, x -> x.set(FREE, 0, 9));
        becomesZero(FREE, x -> x.set(FREE, 0, -9));
        becomesZero(FREE, x -> x.set(FREE, 0, Long.MAX_VALUE));
        becomesZero(FREE, x -> x.set(FREE, 0, -1), x -> x.more(FREE, 0));
        becomesZero(FREE, x -> x.add(FREE, GREATEST, MINUS_GREATEST));
        becomesZero(FREE, x -> x.add(FREE, MINUS_GREATEST, GREATEST));
        becomesZero(FREE, x -> x.subtract(FREE, MINUS_SEVEN_THIRDS, MINUS_SEVEN_THIRDS));
        becomesZero(FREE, x -> x.subtract(FREE, LEAST, LEAST));
        becomesZero(FREE, x -> x.subtract(FREE, ZERO, ZERO));
        becomesZero(FREE, x -> x.multiply(FREE, MINUS_HALF, ZERO));
        becomesZero(FREE, x -> x.multiply(FREE, ZERO, MINUS_HALF));
        becomesZero(FREE, x -> x.multiply(FREE, LEAST, ZERO));
        becomesZero(FREE, x -> x.divide(FREE, ZERO, MINUS_SEVEN_THIRDS));
        becomesZero(FREE, x -> x.power(FREE, ZERO, 1));
        becomesZero(FREE, x -> x.power(FREE, ZERO, 200));
        becomesZero(FREE, x -> x.binomial(FREE, 5, 6));
        becomesZero(FREE, x -> x.round(FREE, MINUS_HALF, 0, 1));
        becomesZero(FREE, x -> x.round(FREE, MINUS_HALF, 0, 2));
        becomesZero(FREE, x -> x.round(FREE, LEAST, 40, 0));
        becomesZero(FREE, x -> x.root(FREE, LEAST, 40));
        becomesZero(FREE, x -> x.share(FREE, SPARE, 5));
    }

    private static void registersAtFirst() {
        Told x = new Told();
        for (int a = 0; a < 16; a++) {
            Hand.due("register " + a + " at first", x.read(a), "0");
            Hand.due("register " + a + " at first as 0", x.compare(a, 0), "0");
        }
    }

    private static void fits() {
        aboveFits();
        belowFits();
        Act half = x -> x.load(FREE, Hand.ten(90));
        Act less = x -> x.load(SPARE, Hand.ten(90).subtract(BigInteger.ONE));
        becomes(FREE, Hand.ten(180).subtract(Hand.ten(90)), half, less, x -> x.multiply(FREE, FREE, SPARE));
        tells(Hand.STATE, half, x -> x.multiply(FREE, FREE, FREE));
        Act turned = x -> x.divide(SPARE, ONE, FREE);
        tells(Hand.STATE, half, turned, x -> x.divide(FREE, FREE, SPARE));
        tells(Hand.STATE, half, turned, x -> x.divide(SPARE, SPARE, FREE));
        tells(Hand.STATE, half, turned, x -> x.multiply(SPARE, SPARE, SPARE));
    }

    private static void aboveFits() {
        Act short9 = x -> x.load(FREE, Hand.ten(171).subtract(BigInteger.ONE));
        becomes(FREE, NINES, short9, x -> x.more(FREE, 999_999_999));
        tells(Hand.STATE, x -> x.load(FREE, Hand.ten(171)), x -> x.more(FREE, 0));
        tells(Hand.STATE, x -> x.load(FREE, Hand.ten(171).negate()), x -> x.more(FREE, 0));
        becomes(FREE, NINES, x -> x.subtract(FREE, GREATEST, ONE), x -> x.add(FREE, FREE, ONE));
        becomes(FREE, "-" + NINES, x -> x.add(FREE, MINUS_GREATEST, ONE), x -> x.subtract(FREE, FREE, ONE));
        tells(Hand.STATE, x -> x.add(FREE, GREATEST, ONE));
        tells(Hand.STATE, x -> x.add(FREE, MINUS_GREATEST, MINUS_ONE));
        tells(Hand.STATE, x -> x.subtract(FREE, GREATEST, MINUS_ONE));
        tells(Hand.STATE, x -> x.subtract(FREE, MINUS_GREATEST, ONE));
        becomes(FREE, "-" + NINES, x -> x.multiply(FREE, GREATEST, MINUS_ONE));
        becomes(FREE, NINES, x -> x.divide(FREE, ONE, LEAST));
        becomes(FREE, NINES, x -> x.power(FREE, GREATEST, 1));
        becomes(FREE, Hand.ten(179), x -> x.power(FREE, TEN, 179));
        tells(Hand.STATE, x -> x.power(FREE, TEN, 180));
        becomes(FREE, NINES, x -> x.round(FREE, GREATEST, 0, 1));
        becomes(FREE, "-" + NINES, x -> x.round(FREE, MINUS_GREATEST, 40, 0));
        becomes(FREE, NINES, weights(0, 7), x -> x.share(FREE, GREATEST, 1));
    }

    private static void belowFits() {
        becomes(FREE, "1/" + NINES, x -> x.divide(FREE, ONE, GREATEST));
        becomes(FREE, "-1/" + NINES, x -> x.multiply(FREE, LEAST, MINUS_ONE));
        becomes(FREE, "2/" + NINES, x -> x.add(FREE, LEAST, LEAST));
        becomes(FREE, Hand.NINES.subtract(BigInteger.ONE) + "/" + NINES, x -> x.subtract(FREE, ONE, LEAST));
        becomes(FREE, "1/" + NINES, x -> x.power(FREE, LEAST, 1));
        becomes(FREE, "1/" + Hand.ten(179), x -> x.power(FREE, TENTH, 179));
        tells(Hand.STATE, x -> x.power(FREE, TENTH, 180));
        Act shortest = x -> x.power(FREE, TENTH, 179);
        tells(Hand.STATE, shortest, x -> x.multiply(FREE, FREE, TENTH));
        tells(Hand.STATE, shortest, x -> x.divide(FREE, FREE, TEN));
        sumsFit();
    }

    /** Sums of numbers whose parts below have no common measure. */
    private static void sumsFit() {
        becomes(FREE, Hand.fraction(Hand.ten(90).multiply(BigInteger.TWO), Hand.NINES),
            x -> x.load(FREE, SPARE, BigInteger.ONE, Hand.ten(90).subtract(BigInteger.ONE)),
            x -> x.load(TEN, SPARE, BigInteger.ONE, Hand.ten(90).add(BigInteger.ONE)),
            x -> x.add(FREE, FREE, TEN));
        Act fifths = x -> x.load(FREE, SPARE, BigInteger.ONE, big(5).pow(180));
        Act halves = x -> x.load(TEN, SPARE, BigInteger.ONE, BigInteger.TWO.pow(180));
        tells(Hand.STATE, fifths, halves, x -> x.add(FREE, FREE, TEN));
        tells(Hand.STATE, fifths, halves, x -> x.subtract(FREE, FREE, TEN));
        Act fewer = x -> x.load(TEN, SPARE, BigInteger.ONE, BigInteger.TWO.pow(179));
        BigInteger below = big(5).pow(180).multiply(BigInteger.TWO.pow(179));
        becomes(FREE, Hand.fraction(BigInteger.TWO.pow(179).subtract(big(5).pow(180)), below), fifths, fewer,
            x -> x.subtract(FREE, FREE, TEN));
    }

    private static void exact() {
        becomes(FREE, "1", x -> x.multiply(FREE, GREATEST, LEAST));
        becomes(FREE, "1", x -> x.divide(FREE, MINUS_GREATEST, MINUS_GREATEST));
        BigInteger even = Hand.NINES.subtract(BigInteger.ONE);
        Act near = x -> x.load(FREE, SPARE, even, Hand.NINES);
        // In between stand numbers of 360 digits, and 360 digits and a carry.
        becomes(FREE, "1", near, x -> x.add(FREE, FREE, LEAST));
        becomes(FREE, Hand.fraction(Hand.NINES.subtract(big(2)), Hand.NINES), near, x -> x.subtract(FREE, FREE, LEAST));
        becomes(FREE, "1", near, x -> x.divide(SPARE, ONE, FREE), x -> x.multiply(FREE, FREE, SPARE));
        becomes(FREE, Hand.fraction(even.subtract(BigInteger.ONE), Hand.NINES), near,
            x -> x.subtract(FREE, ONE, FREE), x -> x.add(FREE, FREE, FREE), x -> x.subtract(FREE, ONE, FREE));
        // Twice (10^180 - 3) / (10^180 - 2): the sum has 361 digits until it is in lowest terms.
        becomes(FREE, Hand.fraction(even.subtract(BigInteger.ONE), even.divide(BigInteger.TWO)),
            x -> x.load(FREE, SPARE, even.subtract(BigInteger.ONE), even), x -> x.add(FREE, FREE, FREE));
        tells("-1", near, x -> x.compare(FREE, ONE));
        Act below = x -> x.load(ONE, SPARE, even.subtract(BigInteger.ONE), even);
        tells("1", near, below, x -> x.compare(FREE, ONE));
        tells("-1", near, below, x -> x.compare(ONE, FREE));
        becomes(FREE, "-1/" + Hand.ten(20).multiply(Hand.ten(20).add(BigInteger.ONE)),
            x -> x.load(FREE, SPARE, BigInteger.ONE, Hand.ten(20).add(BigInteger.ONE)),
            x -> x.load(ONE, SPARE, BigInteger.ONE, Hand.ten(20)),
            x -> x.subtract(FREE, FREE, ONE));
        BigInteger seven = big(7).pow(200);
        becomes(FREE, seven, x -> x.set(FREE, -7, 1), x -> x.power(FREE, FREE, 200));
    }

    private static void whatDoesNotFitChangesNothing() {
        for (int r : new int[] {FREE, GREATEST, MINUS_GREATEST, LEAST, 0, 15}) {
            tells(Hand.STATE, x -> x.add(r, GREATEST, GREATEST));
            tells(Hand.STATE, x -> x.add(r, GREATEST, LEAST));
            tells(Hand.STATE, x -> x.subtract(r, MINUS_GREATEST, GREATEST));
            tells(Hand.STATE, x -> x.multiply(r, GREATEST, MINUS_GREATEST));
            tells(Hand.STATE, x -> x.multiply(r, LEAST, LEAST));
            tells(Hand.STATE, x -> x.divide(r, GREATEST, LEAST));
            tells(Hand.STATE, x -> x.divide(r, LEAST, MINUS_GREATEST));
            tells(Hand.STATE, x -> x.power(r, GREATEST, 2));
            tells(Hand.STATE, x -> x.power(r, LEAST, 200));
            tells(Hand.STATE, x -> x.load(1, SPARE, Hand.ten(150), big(7)), x -> x.round(r, 1, 40, 1));
        }
        tells(Hand.STATE, x -> x.more(GREATEST, 0));
        tells(Hand.STATE, x -> x.more(MINUS_GREATEST, 999_999_999));
    }

    private static void digits() {
        Act counted = x -> x.load(FREE, new BigInteger("-1234567890123456789012345"));
        String text = "1234567890123456789012345";
        tells("25", counted, x -> x.digits(FREE, 0));
        for (int k = 0; k < 25; k++) {
            int now = k;
            tells(text.charAt(24 - k), counted, x -> x.digit(FREE, 0, now));
        }
        tells(Hand.INDEX, counted, x -> x.digit(FREE, 0, 25));
        tells("180", x -> x.digits(GREATEST, 0));
        tells("180", x -> x.digits(MINUS_GREATEST, 0));
        tells("180", x -> x.digits(LEAST, 1));
        tells("2", x -> x.digits(MINUS_DOZEN, 0));
    }

    private static void zeroHasOneDigit() {
        tells("1", x -> x.digits(ZERO, 0));
        tells("1", x -> x.digits(ZERO, 1));
        tells("0", x -> x.digit(ZERO, 0, 0));
        tells("1", x -> x.digit(ZERO, 1, 0));
        tells(Hand.INDEX, x -> x.digit(ZERO, 0, 1));
        tells("1", x -> x.subtract(FREE, GREATEST, GREATEST), x -> x.digits(FREE, 0));
        tells(Hand.INDEX, x -> x.subtract(FREE, GREATEST, GREATEST), x -> x.digit(FREE, 0, 1));
    }

    /** How the fraction is rounded, with and without a sign. */
    private static void rounds(int how, int decimals, long above, long below, String want, String wantNegative) {
        becomes(FREE, want, x -> x.set(FREE, above, below), x -> x.round(FREE, FREE, decimals, how));
        becomes(FREE, wantNegative, x -> x.set(FREE, -above, below), x -> x.round(FREE, FREE, decimals, how));
    }

    private static void floor() {
        rounds(0, 0, 7, 2, "3", "-4");
        rounds(0, 0, 6, 2, "3", "-3");
        rounds(0, 0, 1, 1000, "0", "-1");
        rounds(0, 0, 999, 1000, "0", "-1");
        rounds(0, 0, 0, 1, "0", "0");
        rounds(0, 2, 7, 3, "233/100", "-117/50");
        rounds(0, 2, 233, 100, "233/100", "-233/100");
        rounds(0, 3, 19995, 10000, "1999/1000", "-2");
        becomes(FREE, "-1/" + Hand.ten(40), x -> x.subtract(FREE, ZERO, LEAST), x -> x.round(FREE, FREE, 40, 0));
        becomes(FREE, "-1", x -> x.subtract(FREE, ZERO, LEAST), x -> x.round(FREE, FREE, 0, 0));
        becomes(FREE, NINES, x -> x.round(FREE, GREATEST, 0, 0));
    }

    private static void rounded() {
        rounds(1, 0, 1, 2, "1", "0");
        rounds(1, 0, 3, 2, "2", "-1");
        rounds(1, 0, 49, 100, "0", "0");
        rounds(1, 0, 51, 100, "1", "-1");
        rounds(1, 0, 5, 2, "3", "-2");
        rounds(1, 0, 4, 2, "2", "-2");
        rounds(1, 1, 25, 100, "3/10", "-1/5");
        rounds(1, 1, 1, 4, "3/10", "-1/5");
        rounds(1, 3, 19995, 10000, "2", "-1999/1000");
        rounds(1, 1, 949, 100, "19/2", "-19/2");
        BigInteger half = Hand.NINES.divide(BigInteger.TWO);
        becomes(FREE, "0", x -> x.load(FREE, SPARE, half, Hand.NINES), x -> x.round(FREE, FREE, 0, 1));
        becomes(FREE, "1", x -> x.load(FREE, SPARE, half.add(BigInteger.ONE), Hand.NINES),
            x -> x.round(FREE, FREE, 0, 1));
        becomes(FREE, "-1", x -> x.load(FREE, SPARE, half.add(BigInteger.ONE).negate(), Hand.NINES),
            x -> x.round(FREE, FREE, 0, 1));
        becomes(FREE, "0", x -> x.load(FREE, SPARE, half.negate(), Hand.NINES), x -> x.round(FREE, FREE, 0, 1));
    }

    private static void cut() {
        rounds(2, 0, 7, 2, "3", "-3");
        rounds(2, 0, 999, 1000, "0", "0");
        rounds(2, 0, 6, 2, "3", "-3");
        rounds(2, 2, 7, 3, "233/100", "-233/100");
        rounds(2, 2, 239, 100, "239/100", "-239/100");
        rounds(2, 3, 19995, 10000, "1999/1000", "-1999/1000");
        becomes(FREE, "0", x -> x.subtract(FREE, ZERO, LEAST), x -> x.round(FREE, FREE, 40, 2));
    }

    private static void roots(long above, long below, int decimals, String want) {
        becomes(FREE, want, x -> x.set(FREE, above, below), x -> x.root(FREE, FREE, decimals));
    }

    private static void root() {
        roots(0, 1, 40, "0");
        roots(1, 1, 40, "1");
        roots(2, 1, 0, "1");
        roots(3, 1, 0, "1");
        roots(4, 1, 0, "2");
        roots(99, 1, 0, "9");
        roots(100, 1, 0, "10");
        roots(9, 4, 1, "3/2");
        roots(9, 4, 0, "1");
        roots(224, 100, 1, "7/5");
        roots(225, 100, 1, "3/2");
        roots(226, 100, 1, "3/2");
        roots(35, 9, 0, "1");
        roots(36, 9, 0, "2");
        roots(1, 100, 0, "0");
        roots(1, 100, 1, "1/10");
        roots(99, 10000, 1, "0");
        roots(2, 1, 40, Hand.fraction(new BigInteger("14142135623730950488016887242096980785696"), Hand.ten(40)));
        BigInteger side = Hand.ten(89).add(big(12345));
        BigInteger square = side.multiply(side);
        becomes(FREE, side, x -> x.load(FREE, square), x -> x.root(FREE, FREE, 0));
        becomes(FREE, side.subtract(BigInteger.ONE), x -> x.load(FREE, square.subtract(BigInteger.ONE)),
            x -> x.root(FREE, FREE, 0));
        becomes(FREE, Hand.ten(90).subtract(BigInteger.ONE), x -> x.root(FREE, GREATEST, 0));
        BigInteger wide = Hand.NINES.multiply(Hand.ten(80)).sqrt();
        becomes(FREE, Hand.fraction(wide, Hand.ten(40)), x -> x.root(FREE, GREATEST, 40));
        becomes(FREE, "1/" + Hand.ten(40), x -> x.power(FREE, TENTH, 80), x -> x.root(FREE, FREE, 40));
        becomes(FREE, "0", x -> x.load(FREE, SPARE, Hand.ten(80).subtract(BigInteger.ONE), Hand.ten(160)),
            x -> x.root(FREE, FREE, 40));
    }

    private static void weightNumbers() {
        Told x = new Told();
        for (int k = 0; k < 10; k++) {
            x.weight(k, 100 + k);
        }
        for (int k = 0; k < 10; k++) {
            Hand.due("weight " + k, x.weight(k, 0), String.valueOf(100 + k));
        }
        for (int k : new int[] {-1, 10, Integer.MIN_VALUE, Integer.MAX_VALUE}) {
            tells(Hand.REFUSED, y -> y.weight(k, 1));
            tells(Hand.REFUSED, y -> y.share(FREE, TEN, k));
        }
    }

    private static void weightBounds() {
        Told x = new Told();
        for (int k = 0; k < 10; k++) {
            Hand.due("weight " + k, x.weight(k, 1_000_000_000), "0");
            Hand.due("weight " + k, x.weight(k, 0), "1000000000");
            Hand.due("weight " + k, x.weight(k, 999_999_999), "0");
            Hand.due("weight " + k, x.weight(k, 1), "999999999");
        }
        for (int w : new int[] {-1, 1_000_000_001, Integer.MIN_VALUE, Integer.MAX_VALUE}) {
            tells(Hand.REFUSED, y -> y.weight(0, w));
            tells(Hand.REFUSED, y -> y.weight(9, w));
        }
    }

    private static void weightsAtFirst() {
        Told x = new Told();
        for (int k = 0; k < 10; k++) {
            Hand.due("weight " + k, x.weight(k, 7), "0");
        }
    }

    /** All ten shares of the number, as one text. */
    private static void shares(String want, BigInteger number, int... weights) {
        String[] wants = want.split(" ");
        for (int k = 0; k < 10; k++) {
            int now = k;
            becomes(FREE, k < wants.length ? wants[k] : "0", x -> x.load(SPARE, number), weights(weights),
                x -> x.share(FREE, SPARE, now));
        }
    }

    private static int[] tenOf(int weight) {
        int[] weights = new int[10];
        java.util.Arrays.fill(weights, weight);
        return weights;
    }

    private static void sharesOfZero() {
        shares("0", BigInteger.ZERO, 1, 2, 3);
        shares("0", BigInteger.ZERO, tenOf(1_000_000_000));
        shares("1", BigInteger.ONE, 1);
        tells(Hand.STATE, x -> x.share(FREE, MINUS_ONE, 0));
        tells(Hand.STATE, x -> x.share(FREE, MINUS_GREATEST, 0));
    }

    private static void sumOfWeights() {
        shares("0 0 0 0 0 0 0 0 0 100", big(100), 0, 0, 0, 0, 0, 0, 0, 0, 0, 1);
        shares("100", big(100), 1_000_000_000);
        shares("10 10 10 10 10 10 10 10 10 10", big(100), tenOf(1_000_000_000));
        tells(Hand.ARITHMETIC, weights(), x -> x.share(FREE, HUNDRED, 0));
    }

    private static void sharesWithNothingOver() {
        shares("10 20 30 40", big(100), 1, 2, 3, 4);
        shares("75 0 0 0 0 0 0 0 0 25", big(100), 3, 0, 0, 0, 0, 0, 0, 0, 0, 1);
        shares("0 0 " + NINES, Hand.NINES, 0, 0, 1_000_000_000);
        String third = Hand.NINES.divide(big(3)).toString();
        shares(third + " 0 " + third + " " + third, Hand.NINES, 999_999_999, 0, 999_999_999, 999_999_999);
    }

    private static void greatestRests() {
        shares("2 3", big(5), 1, 2);
        shares("2 4 4", big(10), 1, 3, 3);
        shares("7 2 1", big(10), 5, 1, 1);
        shares("0 0 0 1", BigInteger.ONE, 1, 2, 3, 4, 0, 0, 0, 0, 0, 3);
        shares("0 0 0 0 0 0 0 0 0 1", BigInteger.ONE, 1, 2, 3, 4, 0, 0, 0, 0, 0, 5);
        shares("0 0 0 0 1 1 1 1 1 1", big(6), 5, 5, 5, 5, 10, 9, 8, 8, 7, 6);
        shares("0 1", BigInteger.ONE, 0, 1, 1);
        // One greater weight of ten: its rest is the greatest by one, in a sum of 10^10 less 9.
        shares("0 0 0 0 0 0 0 0 0 1", BigInteger.ONE, 999_999_999, 999_999_999, 999_999_999, 999_999_999,
            999_999_999, 999_999_999, 999_999_999, 999_999_999, 999_999_999, 1_000_000_000);
        // Of n one less than a multiple of the sum, the rests are the sum less each weight.
        BigInteger sum = big(10_000_000_000L - 1);
        BigInteger each = Hand.ten(169);
        shares(each.subtract(Hand.ten(160)) + (" " + each).repeat(8) + " " + each.subtract(BigInteger.ONE),
            sum.multiply(Hand.ten(160)).subtract(BigInteger.ONE), 999_999_999, 1_000_000_000, 1_000_000_000,
            1_000_000_000, 1_000_000_000, 1_000_000_000, 1_000_000_000, 1_000_000_000, 1_000_000_000, 1_000_000_000);
    }

    private static void equalRests() {
        shares("34 33 33", big(100), 1, 1, 1);
        shares("34 34 33", big(101), 1, 1, 1);
        shares("1", BigInteger.ONE, tenOf(1));
        shares("1 1 1 1 1", big(5), tenOf(7));
        shares("1 1 1 1 1 1 1 1 1 0", big(9), tenOf(1));
        shares("0 1", BigInteger.ONE, 1, 3, 2, 3);
        BigInteger tenth = Hand.NINES.divide(BigInteger.TEN);
        shares((tenth.add(BigInteger.ONE) + " ").repeat(9) + tenth, Hand.NINES, tenOf(1_000_000_000));
    }

    private interface Numbered {
        String on(Told x, int number);
    }

    /** The two bounds are taken, what lies beyond them is refused. */
    private static void within(int least, int most, Numbered call) {
        for (int number : new int[] {least, most}) {
            Told x = filled();
            String told = call.on(x, number);
            Hand.due(x.last() + " is refused", told.equals(Hand.REFUSED), false);
        }
        for (int number : new int[] {least - 1, most + 1, Integer.MIN_VALUE, Integer.MAX_VALUE}) {
            tells(Hand.REFUSED, x -> call.on(x, number));
        }
    }

    private static void bounds() {
        within(0, 999_999_999, (x, n) -> x.more(ONE, n));
        within(0, 200, (x, n) -> x.power(FREE, ONE, n));
        within(0, 500, (x, n) -> x.binomial(FREE, n, 0));
        within(0, 40, (x, n) -> x.round(FREE, SEVEN_HALVES, n, 0));
        within(0, 2, (x, n) -> x.round(FREE, SEVEN_HALVES, 1, n));
        within(0, 40, (x, n) -> x.root(FREE, TWO, n));
        within(0, 1, (x, n) -> x.digits(SEVEN_HALVES, n));
        within(0, 1, (x, n) -> x.digit(SEVEN_HALVES, n, 0));
        within(1, 300, (x, n) -> x.behind(SEVEN_HALVES, n));
        within(0, 1, (x, n) -> x.modulo(SEVEN_HALVES, n, 3));
        within(1, 1_000_000_000, (x, n) -> x.modulo(SEVEN_HALVES, 0, n));
        within(0, 9, (x, n) -> x.weight(n, 1));
        within(0, 1_000_000_000, (x, n) -> x.weight(4, n));
        within(0, 9, (x, n) -> x.share(FREE, TEN, n));
        tells(Hand.REFUSED, x -> x.set(FREE, Long.MIN_VALUE, 1));
        tells(Hand.REFUSED, x -> x.set(FREE, 1, Long.MIN_VALUE));
    }

    /** Every place of a register in every call. */
    private static final Numbered[] PLACES = {
        (x, r) -> x.set(r, 1, 1), (x, r) -> x.more(r, 1),
        (x, r) -> x.add(r, ONE, TWO), (x, r) -> x.add(FREE, r, TWO), (x, r) -> x.add(FREE, ONE, r),
        (x, r) -> x.subtract(r, ONE, TWO), (x, r) -> x.subtract(FREE, r, TWO), (x, r) -> x.subtract(FREE, ONE, r),
        (x, r) -> x.multiply(r, ONE, TWO), (x, r) -> x.multiply(FREE, r, TWO), (x, r) -> x.multiply(FREE, ONE, r),
        (x, r) -> x.divide(r, ONE, TWO), (x, r) -> x.divide(FREE, r, TWO), (x, r) -> x.divide(FREE, ONE, r),
        (x, r) -> x.power(r, TWO, 2), (x, r) -> x.power(FREE, r, 0), (x, r) -> x.binomial(r, 5, 2),
        (x, r) -> x.round(r, TWO, 0, 0), (x, r) -> x.round(FREE, r, 0, 0),
        (x, r) -> x.root(r, TWO, 0), (x, r) -> x.root(FREE, r, 0),
        (x, r) -> x.compare(r, ONE), (x, r) -> x.compare(ONE, r), (x, r) -> x.sign(r), (x, r) -> x.digits(r, 0),
        (x, r) -> x.digit(r, 0, 0), (x, r) -> x.behind(r, 1), (x, r) -> x.modulo(r, 0, 5),
        (x, r) -> x.share(r, TEN, 0), (x, r) -> x.share(FREE, r, 0)
    };

    private static void noSuchRegister() {
        for (Numbered place : PLACES) {
            for (int r : NO_REGISTERS) {
                tells(Hand.REFUSED, x -> place.on(x, r));
            }
        }
    }

    private static void arithmetic() {
        tells(Hand.ARITHMETIC, x -> x.set(FREE, 1, 0));
        tells(Hand.ARITHMETIC, x -> x.divide(FREE, ONE, ZERO));
        tells(Hand.ARITHMETIC, x -> x.root(FREE, MINUS_ONE, 0));
        tells(Hand.ARITHMETIC, weights(), x -> x.share(FREE, ONE, 0));
    }

    private static void doesNotFit() {
        tells(Hand.STATE, x -> x.more(GREATEST, 0));
        tells(Hand.STATE, x -> x.add(FREE, GREATEST, GREATEST));
        tells(Hand.STATE, x -> x.add(FREE, LEAST, MINUS_SEVEN_THIRDS));
        tells(Hand.STATE, x -> x.subtract(FREE, GREATEST, MINUS_GREATEST));
        tells(Hand.STATE, x -> x.subtract(FREE, LEAST, GREATEST));
        tells(Hand.STATE, x -> x.multiply(FREE, GREATEST, TWO));
        tells(Hand.STATE, x -> x.multiply(FREE, LEAST, TENTH));
        tells(Hand.STATE, x -> x.divide(FREE, GREATEST, TENTH));
        tells(Hand.STATE, x -> x.divide(FREE, LEAST, MINUS_GREATEST));
        tells(Hand.STATE, x -> x.power(FREE, GREATEST, 200));
        tells(Hand.STATE, x -> x.power(FREE, LEAST, 2));
        tells(Hand.STATE, x -> x.power(FREE, HUNDRED, 90));
        Act sevenths = x -> x.load(FREE, SPARE, Hand.ten(150), big(7));
        for (int how = 0; how < 3; how++) {
            int now = how;
            tells(Hand.STATE, sevenths, x -> x.round(FREE, FREE, 31, now));
            tells(Hand.STATE, sevenths, x -> x.round(FREE, FREE, 40, now));
        }
        // The longest that a binomial and a root can be: they fit.
        becomes(FREE, choose(500, 250), x -> x.binomial(FREE, 500, 250));
        becomes(FREE, Hand.fraction(Hand.NINES.multiply(Hand.ten(80)).sqrt(), Hand.ten(40)),
            x -> x.root(FREE, GREATEST, 40));
    }

    private static BigInteger choose(int n, int k) {
        BigInteger above = BigInteger.ONE;
        BigInteger below = BigInteger.ONE;
        for (int i = 1; i <= k; i++) {
            above = above.multiply(big(n + 1 - i));
            below = below.multiply(big(i));
        }
        return above.divide(below);
    }

    private static void namedFirst() {
        argumentAheadOfArithmetic();
        argumentAheadOfState();
        for (int k : new int[] {-1, 1, 999, Integer.MIN_VALUE}) {
            tells(Hand.REFUSED, x -> x.digit(16, 0, k));
            tells(Hand.REFUSED, x -> x.digit(TWO, 2, k));
            tells(Hand.REFUSED, x -> x.digit(TWO, -1, k));
            tells(Hand.INDEX, x -> x.digit(TWO, 0, k));
        }
        tells(Hand.ARITHMETIC, weights(), x -> x.share(FREE, MINUS_ONE, 0));
        tells(Hand.ARITHMETIC, weights(), x -> x.share(FREE, SEVEN_HALVES, 0));
        tells(Hand.ARITHMETIC, weights(), x -> x.share(FREE, MINUS_HALF, 0));
    }

    private static void argumentAheadOfArithmetic() {
        tells(Hand.REFUSED, x -> x.set(16, 1, 0));
        tells(Hand.REFUSED, x -> x.set(-1, 0, 0));
        tells(Hand.REFUSED, x -> x.set(FREE, Long.MIN_VALUE, 0));
        tells(Hand.REFUSED, x -> x.divide(16, ONE, ZERO));
        tells(Hand.REFUSED, x -> x.divide(FREE, 16, ZERO));
        tells(Hand.REFUSED, x -> x.divide(ZERO, ZERO, -1));
        tells(Hand.REFUSED, x -> x.root(16, MINUS_ONE, 0));
        tells(Hand.REFUSED, x -> x.root(FREE, MINUS_ONE, -1));
        tells(Hand.REFUSED, x -> x.root(FREE, MINUS_ONE, 41));
        tells(Hand.REFUSED, weights(), x -> x.share(16, MINUS_ONE, 0));
        tells(Hand.REFUSED, weights(), x -> x.share(FREE, 16, 0));
        tells(Hand.REFUSED, weights(), x -> x.share(FREE, MINUS_ONE, 10));
        tells(Hand.REFUSED, weights(), x -> x.share(FREE, ONE, -1));
    }

    private static void argumentAheadOfState() {
        tells(Hand.REFUSED, x -> x.more(GREATEST, -1));
        tells(Hand.REFUSED, x -> x.more(GREATEST, 1_000_000_000));
        tells(Hand.REFUSED, x -> x.more(MINUS_HALF, 1_000_000_000));
        tells(Hand.REFUSED, x -> x.add(16, GREATEST, ONE));
        tells(Hand.REFUSED, x -> x.subtract(-1, MINUS_GREATEST, ONE));
        tells(Hand.REFUSED, x -> x.multiply(16, GREATEST, GREATEST));
        tells(Hand.REFUSED, x -> x.divide(16, GREATEST, LEAST));
        tells(Hand.REFUSED, x -> x.power(16, GREATEST, 2));
        tells(Hand.REFUSED, x -> x.power(FREE, GREATEST, 201));
        tells(Hand.REFUSED, x -> x.power(FREE, GREATEST, -1));
        Act sevenths = x -> x.load(FREE, SPARE, Hand.ten(150), big(7));
        tells(Hand.REFUSED, sevenths, x -> x.round(16, FREE, 40, 0));
        tells(Hand.REFUSED, sevenths, x -> x.round(FREE, FREE, 41, 0));
        tells(Hand.REFUSED, sevenths, x -> x.round(FREE, FREE, 40, 3));
        tells(Hand.REFUSED, sevenths, x -> x.round(FREE, FREE, 40, -1));
        tells(Hand.REFUSED, x -> x.share(16, MINUS_ONE, 0));
        tells(Hand.REFUSED, x -> x.share(FREE, SEVEN_HALVES, 10));
        tells(Hand.REFUSED, x -> x.share(FREE, MINUS_HALF, -1));
    }

    /** Calls that throw, each in another way. */
    private static final Act[] THROWING = {
        x -> x.set(16, 1, 1), x -> x.set(FREE, Long.MIN_VALUE, 3), x -> x.set(FREE, 8, 0),
        x -> x.more(FREE, 7), x -> x.more(GREATEST, 7), x -> x.more(ONE, -7),
        x -> x.add(FREE, GREATEST, ONE), x -> x.add(FREE, 16, ONE), x -> x.subtract(FREE, MINUS_GREATEST, ONE),
        x -> x.multiply(MINUS_GREATEST, GREATEST, GREATEST), x -> x.multiply(LEAST, LEAST, LEAST),
        x -> x.divide(FREE, ONE, ZERO), x -> x.divide(GREATEST, GREATEST, LEAST),
        x -> x.power(GREATEST, GREATEST, 3), x -> x.power(FREE, TEN, 201), x -> x.power(LEAST, LEAST, 200),
        x -> x.binomial(FREE, 501, 5), x -> x.binomial(16, 5, 5), x -> x.round(FREE, ONE, 41, 0),
        x -> x.round(FREE, ONE, 1, 3), x -> x.root(FREE, MINUS_ONE, 1), x -> x.root(FREE, ONE, 41),
        x -> x.compare(0, 16), x -> x.sign(-1), x -> x.digits(FREE, 2), x -> x.digit(FREE, 0, 1),
        x -> x.behind(FREE, 301), x -> x.modulo(FREE, 0, 0), x -> x.weight(0, -1), x -> x.weight(10, 5),
        x -> x.share(FREE, MINUS_ONE, 0), x -> x.share(FREE, SEVEN_HALVES, 9), x -> x.share(FREE, ONE, 10)
    };

    /** Calls that go well on a filled object, of every kind, on what the calls before them left. */
    private static String goesOn(Told x) {
        StringBuilder told = new StringBuilder();
        told.append(x.more(ONE, 5)).append(x.add(0, 0, 1)).append(x.subtract(1, 0, FREE));
        told.append(x.multiply(FREE, FREE, 1)).append(x.divide(TWO, ONE, FREE)).append(x.power(TENTH, TENTH, 7));
        told.append(x.binomial(MINUS_ONE, 77, 33)).append(x.round(MINUS_HALF, FREE, 3, 1));
        told.append(x.root(HUNDRED, ONE, 9)).append(x.share(TEN, TEN, 9)).append(x.compare(GREATEST, LEAST));
        told.append(x.behind(FREE, 33)).append(x.modulo(LEAST, 1, 77)).append(x.weight(3, 8)).append(x.digit(0, 1, 0));
        return told.append(' ').append(x.all()).toString();
    }

    private static void throwsAndGoesOn() {
        String want = goesOn(filled());
        Hand.due("what goes on throws", want.contains("throws"), false);
        for (Act act : THROWING) {
            Told x = filled();
            String told = act.on(x);
            String call = x.last();
            Hand.due(call + " throws", told.startsWith("throws."), true);
            Hand.due(call + " and what follows", goesOn(x), want);
        }
        Told x = filled();
        for (Act act : THROWING) {
            act.on(x);
        }
        Hand.due("all that throw, and what follows", goesOn(x), want);
    }
}

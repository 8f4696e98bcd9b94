import java.math.BigInteger;
import java.util.Random;

/** Long runs of calls, always the same ones, against a plain reckoning with BigInteger. */
public final class RandomRunsTest {
    private static final BigInteger ONE = BigInteger.ONE;
    private static final BigInteger ZERO = BigInteger.ZERO;
    private static final BigInteger TWO = BigInteger.TWO;
    private static final int RUNS = 1500;
    /** As many calls as the longest try makes, and the last look at all registers. */
    private static final int LAST_CALLS = 140;

    private final Random dice;
    private final Told x = new Told();
    private final BigInteger[] above = new BigInteger[16];
    private final BigInteger[] below = new BigInteger[16];
    private final int[] weights = new int[10];

    private RandomRunsTest(long seed) {
        dice = new Random(seed);
        for (int i = 0; i < 16; i++) {
            above[i] = ZERO;
            below[i] = ONE;
        }
    }

    public static void main(String[] args) {
        for (int run = 0; run < RUNS; run++) {
            RandomRunsTest test = new RandomRunsTest(run);
            for (int i = 0; test.x.callsLeft() >= LAST_CALLS; i++) {
                test.call("run " + run + " try " + i + ": ");
            }
            test.look("run " + run + " at its end: ");
        }
        Hand.end();
    }

    private void call(String where) {
        int kind = dice.nextInt(20);
        switch (kind) {
            case 0, 1 -> trySet(where);
            case 2, 3, 4 -> tryMore(where);
            case 5, 6, 7, 8, 9 -> tryPair(where);
            case 10 -> tryPower(where);
            case 11 -> tryBinomial(where);
            case 12, 13 -> tryRound(where);
            case 14 -> tryRoot(where);
            case 15 -> tryCompare(where);
            case 16 -> tryParts(where);
            case 17 -> tryBehind(where);
            case 18 -> tryWeight(where);
            default -> tryShare(where);
        }
    }

    private int register() {
        return dice.nextInt(150) == 0 ? (dice.nextBoolean() ? -1 : 16) : dice.nextInt(16);
    }

    private static boolean isRegister(int r) {
        return r >= 0 && r < 16;
    }

    private int within(int least, int most) {
        int slack = dice.nextInt(40);
        if (slack == 0) {
            return least - 1;
        }
        if (slack == 1) {
            return most + 1;
        }
        if (slack < 6) {
            return dice.nextBoolean() ? least : most;
        }
        return least + dice.nextInt(most - least + 1);
    }

    private long number() {
        switch (dice.nextInt(8)) {
            case 0:
                return dice.nextLong();
            case 1:
                return dice.nextInt(7) - 3;
            case 2:
                return Long.MAX_VALUE - dice.nextInt(3);
            case 3:
                return Long.MIN_VALUE + dice.nextInt(3);
            case 4:
                return dice.nextInt(1000) - 500;
            default:
                return dice.nextLong() >> dice.nextInt(63);
        }
    }

    /** Keeps above / below in register r if it fits, and answers what the call is due to answer. */
    private String due(int r, BigInteger top, BigInteger bottom) {
        BigInteger common = top.gcd(bottom);
        BigInteger a = top.divide(common);
        BigInteger b = bottom.divide(common);
        if (b.signum() < 0) {
            a = a.negate();
            b = b.negate();
        }
        if (a.abs().compareTo(Hand.BOUND) >= 0 || b.compareTo(Hand.BOUND) >= 0) {
            return Hand.STATE;
        }
        above[r] = a;
        below[r] = b;
        return Hand.NOTHING;
    }

    private void see(String what, int r, String got, String want) {
        Hand.due(what, got, want);
        if (isRegister(r)) {
            Hand.due(what + " register " + r + " as " + held(r), x.print(r), Told.printOf(held(r)));
        }
    }

    private String held(int r) {
        return Hand.fraction(above[r], below[r]);
    }

    /** At all registers, and digit by digit at as many as there are calls left for. */
    private void look(String where) {
        for (int r = 0; r < 16; r++) {
            Hand.due(where + "register " + r + " as " + held(r), x.print(r), Told.printOf(held(r)));
        }
        for (int r = 0; r < 16; r++) {
            if (held(r).length() + 5 <= x.callsLeft()) {
                Hand.due(where + "register " + r, x.read(r), held(r));
            }
        }
    }

    private void trySet(String where) {
        int r = register();
        long top = number();
        long bottom = number();
        String want;
        if (!isRegister(r) || top == Long.MIN_VALUE || bottom == Long.MIN_VALUE) {
            want = Hand.REFUSED;
        } else if (bottom == 0) {
            want = Hand.ARITHMETIC;
        } else {
            want = due(r, BigInteger.valueOf(top), BigInteger.valueOf(bottom));
        }
        see(where + "set " + r + " " + top + " " + bottom, r, x.set(r, top, bottom), want);
    }

    private void tryMore(String where) {
        int times = dice.nextInt(22);
        int r = register();
        for (int i = 0; i <= times; i++) {
            int digits = dice.nextInt(4) == 0 ? within(0, 5) : within(0, 999_999_999);
            String want;
            if (!isRegister(r) || digits < 0 || digits > 999_999_999) {
                want = Hand.REFUSED;
            } else if (!below[r].equals(ONE)) {
                want = Hand.STATE;
            } else {
                BigInteger extra = BigInteger.valueOf(above[r].signum() < 0 ? -digits : digits);
                want = due(r, above[r].multiply(Hand.CHUNK).add(extra), ONE);
            }
            see(where + "more " + r + " " + digits, r, x.more(r, digits), want);
        }
    }

    private void tryPair(String where) {
        int r = register();
        int a = register();
        int b = register();
        int kind = dice.nextInt(4);
        String want = Hand.REFUSED;
        if (isRegister(r) && isRegister(a) && isRegister(b)) {
            want = duePair(r, a, b, kind);
        }
        String got = switch (kind) {
            case 0 -> x.add(r, a, b);
            case 1 -> x.subtract(r, a, b);
            case 2 -> x.multiply(r, a, b);
            default -> x.divide(r, a, b);
        };
        see(where + "pair " + kind + " " + r + " " + a + " " + b, r, got, want);
    }

    private String duePair(int r, int a, int b, int kind) {
        BigInteger left = above[a].multiply(below[b]);
        BigInteger right = above[b].multiply(below[a]);
        BigInteger bottom = below[a].multiply(below[b]);
        switch (kind) {
            case 0:
                return due(r, left.add(right), bottom);
            case 1:
                return due(r, left.subtract(right), bottom);
            case 2:
                return due(r, above[a].multiply(above[b]), bottom);
            default:
                return above[b].signum() == 0 ? Hand.ARITHMETIC : due(r, left, right);
        }
    }

    private void tryPower(String where) {
        int r = register();
        int a = register();
        int n = dice.nextBoolean() ? within(0, 200) : within(0, 8);
        String want = Hand.REFUSED;
        if (isRegister(r) && isRegister(a) && n >= 0 && n <= 200) {
            want = due(r, above[a].pow(n), below[a].pow(n));
        }
        see(where + "power " + r + " " + a + " " + n, r, x.power(r, a, n), want);
    }

    private void tryBinomial(String where) {
        int r = register();
        int n = within(0, 500);
        int k = within(0, 500);
        String want = Hand.REFUSED;
        if (isRegister(r) && n >= 0 && n <= 500) {
            BigInteger value = k < 0 || k > n ? ZERO : ONE;
            for (int i = 1; i <= k && i <= n; i++) {
                value = value.multiply(BigInteger.valueOf(n - i + 1)).divide(BigInteger.valueOf(i));
            }
            want = due(r, value, ONE);
        }
        see(where + "binomial " + r + " " + n + " " + k, r, x.binomial(r, n, k), want);
    }

    private static BigInteger floor(BigInteger top, BigInteger bottom) {
        BigInteger[] both = top.divideAndRemainder(bottom);
        return both[1].signum() < 0 ? both[0].subtract(ONE) : both[0];
    }

    private void tryRound(String where) {
        int r = register();
        int a = register();
        int d = within(0, 40);
        int how = within(0, 2);
        String want = Hand.REFUSED;
        if (isRegister(r) && isRegister(a) && d >= 0 && d <= 40 && how >= 0 && how <= 2) {
            BigInteger ten = BigInteger.TEN.pow(d);
            BigInteger top = above[a].multiply(ten);
            BigInteger value = switch (how) {
                case 0 -> floor(top, below[a]);
                case 1 -> floor(top.multiply(TWO).add(below[a]), below[a].multiply(TWO));
                default -> top.divide(below[a]);
            };
            want = due(r, value, ten);
        }
        see(where + "round " + r + " " + a + " " + d + " " + how, r, x.round(r, a, d, how), want);
    }

    private void tryRoot(String where) {
        int r = register();
        int a = register();
        int d = within(0, 40);
        String want = Hand.REFUSED;
        if (isRegister(r) && isRegister(a) && d >= 0 && d <= 40) {
            if (above[a].signum() < 0) {
                want = Hand.ARITHMETIC;
            } else {
                BigInteger ten = BigInteger.TEN.pow(d);
                want = due(r, above[a].multiply(ten).multiply(ten).divide(below[a]).sqrt(), ten);
            }
        }
        see(where + "root " + r + " " + a + " " + d, r, x.root(r, a, d), want);
    }

    private void tryCompare(String where) {
        int a = register();
        int b = dice.nextInt(8) == 0 ? a : register();
        String want = Hand.REFUSED;
        if (isRegister(a) && isRegister(b)) {
            want = "" + above[a].multiply(below[b]).compareTo(above[b].multiply(below[a]));
        }
        Hand.due(where + "compare " + a + " " + b, x.compare(a, b), want);
    }

    private void tryParts(String where) {
        int a = register();
        int part = within(0, 1);
        int m = dice.nextBoolean() ? within(1, 1_000_000_000) : within(1, 20);
        int k = within(0, 180);
        String refused = Hand.REFUSED;
        boolean good = isRegister(a) && (part == 0 || part == 1);
        BigInteger number = !good ? ZERO : part == 0 ? above[a].abs() : below[a];
        String text = number.toString();
        boolean goodM = good && m >= 1 && m <= 1_000_000_000;
        String wantModulo = goodM ? "" + number.mod(BigInteger.valueOf(m)) : refused;
        String wantDigit = k < 0 || k >= text.length() ? Hand.INDEX
            : "" + text.charAt(text.length() - 1 - k);
        String what = where + "parts " + a + " " + part + " " + m + " " + k;
        Hand.due(what + " modulo", x.modulo(a, part, m), wantModulo);
        Hand.due(what + " digits", x.digits(a, part), good ? "" + text.length() : refused);
        Hand.due(what + " digit", x.digit(a, part, k), good ? wantDigit : refused);
        Hand.due(what + " sign", x.sign(a), isRegister(a) ? "" + above[a].signum() : refused);
    }

    private void tryBehind(String where) {
        int a = register();
        int k = within(1, 300);
        String want = Hand.REFUSED;
        if (isRegister(a) && k >= 1 && k <= 300) {
            want = "" + above[a].abs().multiply(BigInteger.TEN.pow(k)).divide(below[a]).mod(BigInteger.TEN);
        }
        Hand.due(where + "behind " + a + " " + k, x.behind(a, k), want);
    }

    private void tryWeight(String where) {
        int k = within(0, 9);
        int w = dice.nextBoolean() ? within(0, 4) : within(0, 1_000_000_000);
        String want = Hand.REFUSED;
        if (k >= 0 && k <= 9 && w >= 0 && w <= 1_000_000_000) {
            want = "" + weights[k];
            weights[k] = w;
        }
        Hand.due(where + "weight " + k + " " + w, x.weight(k, w), want);
    }

    private void tryShare(String where) {
        int r = register();
        int a = register();
        int k = within(0, 9);
        String want = Hand.REFUSED;
        if (isRegister(r) && isRegister(a) && k >= 0 && k <= 9) {
            want = dueShare(r, a, k);
        }
        see(where + "share " + r + " " + a + " " + k, r, x.share(r, a, k), want);
    }

    private String dueShare(int r, int a, int k) {
        BigInteger all = ZERO;
        for (int w : weights) {
            all = all.add(BigInteger.valueOf(w));
        }
        if (all.signum() == 0) {
            return Hand.ARITHMETIC;
        }
        if (above[a].signum() < 0 || !below[a].equals(ONE)) {
            return Hand.STATE;
        }
        BigInteger[] shares = new BigInteger[10];
        BigInteger[] rests = new BigInteger[10];
        BigInteger over = above[a];
        for (int i = 0; i < 10; i++) {
            BigInteger[] both = above[a].multiply(BigInteger.valueOf(weights[i])).divideAndRemainder(all);
            shares[i] = both[0];
            rests[i] = both[1];
            over = over.subtract(both[0]);
        }
        for (int given = over.intValueExact(); given > 0; given--) {
            int best = 0;
            for (int i = 1; i < 10; i++) {
                if (rests[i].compareTo(rests[best]) > 0) {
                    best = i;
                }
            }
            shares[best] = shares[best].add(ONE);
            rests[best] = BigInteger.valueOf(-1);
        }
        return due(r, shares[k], ONE);
    }
}

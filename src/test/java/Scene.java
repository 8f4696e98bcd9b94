import java.math.BigInteger;

/** A filled object, and what a test of a sentence asks of it. */
abstract class Scene {
    /** The registers of a filled object, by what they hold. */
    static final int SEVEN_HALVES = 0;
    static final int MINUS_SEVEN_THIRDS = 1;
    static final int ZERO = 2;
    static final int GREATEST = 3;
    static final int LEAST = 4;
    static final int MINUS_DOZEN = 5;
    static final int ONE = 6;
    static final int MINUS_ONE = 7;
    static final int TEN = 8;
    static final int TENTH = 9;
    static final int HUNDRED = 10;
    static final int MINUS_HALF = 11;
    static final int TWO = 12;
    /** Holds 5 / 6, and is for what comes of a call. */
    static final int FREE = 13;
    static final int MINUS_GREATEST = 14;
    /** Holds 9, and is for what a test loads. */
    static final int SPARE = 15;

    static final int[] NO_REGISTERS = {-1, 16, Integer.MIN_VALUE, Integer.MAX_VALUE};

    /** A call, or several of which the last is looked at. */
    interface Act {
        String on(Told x);
    }

    static BigInteger big(long number) {
        return BigInteger.valueOf(number);
    }

    static Told filled() {
        Told x = new Told();
        x.set(SEVEN_HALVES, 7, 2);
        x.load(GREATEST, Hand.NINES);
        x.set(ONE, 1, 1);
        x.divide(LEAST, ONE, GREATEST);
        x.set(MINUS_DOZEN, -12, 1);
        x.set(MINUS_ONE, -1, 1);
        x.set(TEN, 10, 1);
        x.set(TENTH, 1, 10);
        x.set(HUNDRED, 100, 1);
        x.set(MINUS_HALF, -1, 2);
        x.set(TWO, 2, 1);
        x.set(FREE, 5, 6);
        x.subtract(MINUS_GREATEST, ZERO, GREATEST);
        x.set(SPARE, 9, 1);
        // Last, so that what this call leaves inside the object is no plain number.
        x.set(MINUS_SEVEN_THIRDS, -7, 3);
        x.weight(0, 3);
        x.weight(9, 1);
        return x;
    }

    /** Weight 0 and those behind it become so, and the others 0. */
    static Act weights(int... weights) {
        return x -> {
            for (int k = 0; k < 10; k++) {
                x.weight(k, k < weights.length ? weights[k] : 0);
            }
            return Hand.NOTHING;
        };
    }

    /** A filled object on which all acts but the last have been done. */
    private static Told prepared(Act... acts) {
        Told x = filled();
        for (int i = 0; i < acts.length - 1; i++) {
            String told = acts[i].on(x);
            Hand.due(x.last(), told, Hand.NOTHING);
        }
        return x;
    }

    /** The last act makes register r so, and nothing else is changed by it. */
    static void becomes(int r, Object want, Act... acts) {
        Told x = prepared(acts);
        String told = acts[acts.length - 1].on(x);
        String call = x.last();
        Hand.due(call, told, Hand.NOTHING);
        Hand.due(call + " register " + r, x.read(r), want.toString());
        Hand.due(call + " all else", x.allBut(r), prepared(acts).allBut(r));
    }

    /** The last act throws so, or tells so, and nothing is changed by it. */
    static void tells(Object want, Act... acts) {
        Told x = prepared(acts);
        String told = acts[acts.length - 1].on(x);
        String call = x.last();
        Hand.due(call, told, want.toString());
        Hand.due(call + " all", x.all(), prepared(acts).all());
    }

    /** The last act makes register r a 0 that no call can tell from that of a new object. */
    static void becomesZero(int r, Act... acts) {
        becomes(r, "0", acts);
        Act[] longer = java.util.Arrays.copyOf(acts, acts.length + 1);
        longer[acts.length] = x -> x.compare(r, ZERO);
        tells("0", longer);
        longer[acts.length] = x -> x.compare(ZERO, r);
        tells("0", longer);
        longer[acts.length] = x -> x.more(r, 5);
        becomes(r, "5", longer);
        longer[acts.length] = x -> x.root(r, r, 0);
        becomes(r, "0", longer);
        longer[acts.length] = x -> x.share(r, r, 0);
        becomes(r, "0", longer);
    }
}

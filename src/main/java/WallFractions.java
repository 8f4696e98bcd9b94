/**
 * Exact fractions of up to 180 digits above and below the line, held in
 * sixteen registers, and shares of whole numbers by ten weights.
 *
 * All rows are made in the constructor and used again by every call, so that
 * a call makes no object but the exception that it throws.
 */
public final class WallFractions {

    private static final int REGISTERS = 16;
    private static final int WEIGHTS = 10;
    private static final int MOST_WEIGHT = 1_000_000_000;
    private static final int MOST_MODULUS = 1_000_000_000;
    private static final int MOST_POWER = 200;
    private static final int MOST_CHOICE = 500;
    private static final int MOST_DECIMALS = 40;
    private static final int MOST_BEHIND = 300;

    private static final int FLOOR = 0;
    private static final int ROUNDED = 1;
    private static final int CUT = 2;

    /** A limb holds so many decimal digits; BASE is one more than its greatest value. */
    private static final int LIMB_DIGITS = 9;
    private static final long BASE = 1_000_000_000L;

    /** 10^180 is BASE^20: what fits has at most so many limbs. */
    private static final int FIT_LIMBS = 20;

    /** The longest number reckoned with: a sum of two products of numbers that fit. */
    private static final int ROOM = 2 * FIT_LIMBS + 1;

    /** Far more than the steps of any loop that comes nearer to its end by itself. */
    private static final int FAR = 100_000;

    private static final long[] TENS = {
        1L, 10L, 100L, 1_000L, 10_000L, 100_000L, 1_000_000L, 10_000_000L, 100_000_000L, 1_000_000_000L
    };

    private final Fraction[] registers;
    private final Reckoner reckoner;
    private final Sharing sharing;

    public WallFractions() {
        registers = new Fraction[REGISTERS];
        for (int r = 0; r < REGISTERS; r++) {
            registers[r] = new Fraction();
        }
        Divider divider = new Divider();
        reckoner = new Reckoner(divider);
        sharing = new Sharing(divider);
    }

    public void set(int r, long above, long below) throws IllegalArgumentException, ArithmeticException {
        requireRegister(r);
        // Long.MIN_VALUE is the one long that has no counterpart with the other sign.
        requireWithin(above, -Long.MAX_VALUE, Long.MAX_VALUE);
        requireWithin(below, -Long.MAX_VALUE, Long.MAX_VALUE);
        if (below == 0) {
            throw new ArithmeticException("below is 0");
        }
        reckoner.ratio(above, below);
        keep(r);
    }

    public void more(int r, int digits) throws IllegalArgumentException, IllegalStateException {
        requireRegister(r);
        requireWithin(digits, 0, BASE - 1);
        requireWhole(registers[r]);
        reckoner.lengthen(registers[r], digits);
        keep(r);
    }

    public void add(int r, int a, int b) throws IllegalArgumentException, IllegalStateException {
        requireRegisters(r, a, b);
        reckoner.total(registers[a], registers[b], registers[b].negative);
        reckoner.reduce();
        keep(r);
    }

    public void subtract(int r, int a, int b) throws IllegalArgumentException, IllegalStateException {
        requireRegisters(r, a, b);
        reckoner.total(registers[a], registers[b], !registers[b].negative);
        reckoner.reduce();
        keep(r);
    }

    public void multiply(int r, int a, int b) throws IllegalArgumentException, IllegalStateException {
        requireRegisters(r, a, b);
        reckoner.product(registers[a], registers[b].above, registers[b].below, registers[b].negative);
        reckoner.reduce();
        keep(r);
    }

    public void divide(int r, int a, int b)
            throws IllegalArgumentException, ArithmeticException, IllegalStateException {
        requireRegisters(r, a, b);
        if (registers[b].above.isZero()) {
            throw new ArithmeticException("b is 0");
        }
        reckoner.product(registers[a], registers[b].below, registers[b].above, registers[b].negative);
        reckoner.reduce();
        keep(r);
    }

    public void power(int r, int a, int n) throws IllegalArgumentException, IllegalStateException {
        requireRegister(r);
        requireRegister(a);
        requireWithin(n, 0, MOST_POWER);
        reckoner.raise(registers[a], n);
        keep(r);
    }

    public void binomial(int r, int n, int k) throws IllegalArgumentException, IllegalStateException {
        requireRegister(r);
        requireWithin(n, 0, MOST_CHOICE);
        reckoner.choose(n, k);
        keep(r);
    }

    public void round(int r, int a, int decimals, int how) throws IllegalArgumentException, IllegalStateException {
        requireRegister(r);
        requireRegister(a);
        requireWithin(decimals, 0, MOST_DECIMALS);
        requireWithin(how, FLOOR, CUT);
        reckoner.shorten(registers[a], decimals, how);
        reckoner.reduce();
        keep(r);
    }

    public void root(int r, int a, int decimals)
            throws IllegalArgumentException, ArithmeticException, IllegalStateException {
        requireRegister(r);
        requireRegister(a);
        requireWithin(decimals, 0, MOST_DECIMALS);
        if (registers[a].negative) {
            throw new ArithmeticException("a is below 0");
        }
        reckoner.extractRoot(registers[a], decimals);
        reckoner.reduce();
        keep(r);
    }

    // ---- what is told

    public int compare(int a, int b) throws IllegalArgumentException {
        requireRegister(a);
        requireRegister(b);
        return reckoner.order(registers[a], registers[b]);
    }

    public int sign(int a) throws IllegalArgumentException {
        requireRegister(a);
        return registers[a].direction();
    }

    public int digits(int a, int part) throws IllegalArgumentException {
        return partOf(a, part).decimalLength();
    }

    public int digit(int a, int part, int k) throws IllegalArgumentException, IndexOutOfBoundsException {
        Whole number = partOf(a, part);
        if (k < 0 || k >= number.decimalLength()) {
            throw new IndexOutOfBoundsException("there is no such digit");
        }
        return number.decimalAt(k);
    }

    public int behind(int a, int k) throws IllegalArgumentException {
        requireRegister(a);
        requireWithin(k, 1, MOST_BEHIND);
        return reckoner.decimalBehind(registers[a], k);
    }

    public int modulo(int a, int part, int m) throws IllegalArgumentException {
        Whole number = partOf(a, part);
        requireWithin(m, 1, MOST_MODULUS);
        return (int) number.restBy(m);
    }

    // ---- shares

    public int weight(int k, int w) throws IllegalArgumentException {
        requireWithin(k, 0, WEIGHTS - 1);
        requireWithin(w, 0, MOST_WEIGHT);
        return sharing.exchange(k, w);
    }

    public void share(int r, int a, int k)
            throws IllegalArgumentException, ArithmeticException, IllegalStateException {
        requireRegister(r);
        requireRegister(a);
        requireWithin(k, 0, WEIGHTS - 1);
        if (sharing.sumOfWeights() == 0) {
            throw new ArithmeticException("all weights are 0");
        }
        requireWhole(registers[a]);
        if (registers[a].negative) {
            throw new IllegalStateException("a is below 0");
        }
        reckoner.putOut(sharing.shareOf(registers[a].above, k), 0, false);
        keep(r);
    }

    // ---- inside

    private static void requireWithin(long number, long least, long most) {
        if (number < least || number > most) {
            throw new IllegalArgumentException("a number is out of its bounds");
        }
    }

    private static void requireRegister(int r) {
        if (r < 0 || r >= REGISTERS) {
            throw new IllegalArgumentException("there is no such register");
        }
    }

    private static void requireRegisters(int r, int a, int b) {
        requireRegister(r);
        requireRegister(a);
        requireRegister(b);
    }

    private static void requireWhole(Fraction fraction) {
        if (!fraction.below.isOne()) {
            throw new IllegalStateException("the register is not whole");
        }
    }

    private Whole partOf(int a, int part) {
        requireRegister(a);
        requireWithin(part, 0, 1);
        return part == 0 ? registers[a].above : registers[a].below;
    }

    /** The only way into a register: what does not fit leaves all as it was. */
    private void keep(int r) {
        reckoner.requireFit();
        registers[r].copyFrom(reckoner.out);
    }

    /** A whole number without sign, its limbs from the lowest on; the highest is not 0, and 0 has none. */
    private static final class Whole {
        private final long[] limbs;
        private int size;

        Whole() {
            limbs = new long[ROOM];
            size = 0;
        }

        /** No call gets here with a number too long; one that did must not reach past the row. */
        private static void requireRoom(int wanted) {
            if (wanted > ROOM) {
                throw new IllegalStateException("too long a number");
            }
        }

        /** No call gets here with such a divisor; one that did must not divide by 0. */
        private static void requireDivisor(long divisor) {
            if (divisor < 1) {
                throw new IllegalStateException("no divisor");
            }
        }

        /** Lays the size on the highest limb that is not 0, looking from this many limbs downwards. */
        private void settle(int from) {
            size = from;
            while (size > 0 && limbs[size - 1] == 0) {
                size--;
            }
        }

        private long limbAt(int i) {
            return i >= 0 && i < size ? limbs[i] : 0;
        }

        void become(long value) {
            long left = value;
            size = 0;
            while (left > 0 && size < ROOM) {
                limbs[size] = left % BASE;
                left = left / BASE;
                size++;
            }
        }

        void becomeTenTo(int exponent) {
            int top = exponent / LIMB_DIGITS;
            requireRoom(top + 1);
            for (int i = 0; i < top; i++) {
                limbs[i] = 0;
            }
            limbs[top] = TENS[exponent % LIMB_DIGITS];
            size = top + 1;
        }

        void copyFrom(Whole other) {
            System.arraycopy(other.limbs, 0, limbs, 0, other.size);
            size = other.size;
        }

        /** The number itself, if it has at most two limbs. */
        long lowest() {
            return limbAt(1) * BASE + limbAt(0);
        }

        boolean isZero() {
            return size == 0;
        }

        boolean isOne() {
            return size == 1 && limbs[0] == 1;
        }

        int order(Whole other) {
            if (size != other.size) {
                return size < other.size ? -1 : 1;
            }
            for (int i = size - 1; i >= 0; i--) {
                if (limbs[i] != other.limbs[i]) {
                    return limbs[i] < other.limbs[i] ? -1 : 1;
                }
            }
            return 0;
        }

        /** Either number may be this one. */
        void becomeSum(Whole x, Whole y) {
            int longer = Math.max(x.size, y.size);
            requireRoom(longer + 1);
            long carry = 0;
            for (int i = 0; i < longer; i++) {
                long sum = x.limbAt(i) + y.limbAt(i) + carry;
                carry = sum >= BASE ? 1 : 0;
                limbs[i] = sum - carry * BASE;
            }
            limbs[longer] = carry;
            settle(longer + 1);
        }

        /** Either number may be this one; y is not above x. */
        void becomeDifference(Whole x, Whole y) {
            int longer = x.size;
            long borrow = 0;
            for (int i = 0; i < longer; i++) {
                long difference = x.limbs[i] - y.limbAt(i) - borrow;
                borrow = difference < 0 ? 1 : 0;
                limbs[i] = difference + borrow * BASE;
            }
            settle(longer);
        }

        /** Neither number may be this one. */
        void becomeProduct(Whole x, Whole y) {
            int both = x.size + y.size;
            requireRoom(both);
            for (int i = 0; i < both; i++) {
                limbs[i] = 0;
            }
            for (int i = 0; i < x.size; i++) {
                long factor = x.limbs[i];
                long carry = 0;
                for (int j = 0; j < y.size; j++) {
                    long sum = limbs[i + j] + factor * y.limbs[j] + carry;
                    carry = sum / BASE;
                    limbs[i + j] = sum - carry * BASE;
                }
                limbs[i + y.size] = carry;
            }
            settle(both);
        }

        /** Becomes itself times 0 .. BASE and so much more, which is less than BASE. */
        void grow(long factor, long extra) {
            requireRoom(size + 1);
            long carry = extra;
            for (int i = 0; i < size; i++) {
                long sum = limbs[i] * factor + carry;
                carry = sum / BASE;
                limbs[i] = sum - carry * BASE;
            }
            limbs[size] = carry;
            settle(size + 1);
        }

        /** Becomes x divided by 1 .. BASE, rounded down, and answers the rest; x may be this one. */
        long becomeQuotient(Whole x, long divisor) {
            requireDivisor(divisor);
            long rest = 0;
            int length = x.size;
            for (int i = length - 1; i >= 0; i--) {
                long left = rest * BASE + x.limbs[i];
                limbs[i] = left / divisor;
                rest = left % divisor;
            }
            settle(length);
            return rest;
        }

        long restBy(long divisor) {
            requireDivisor(divisor);
            long rest = 0;
            for (int i = size - 1; i >= 0; i--) {
                rest = (rest * BASE + limbs[i]) % divisor;
            }
            return rest;
        }

        int decimalLength() {
            return size == 0 ? 1 : (size - 1) * LIMB_DIGITS + topLength();
        }

        /** How many decimal digits the highest limb has, with no zeros ahead of them. */
        int topLength() {
            long top = limbAt(size - 1);
            int length = 1;
            while (length < LIMB_DIGITS && top >= TENS[length]) {
                length++;
            }
            return length;
        }

        int decimalAt(int k) {
            return (int) (limbAt(k / LIMB_DIGITS) / TENS[k % LIMB_DIGITS] % 10);
        }
    }

    /** A fraction in lowest terms; 0 is 0 / 1 and not negative. */
    private static final class Fraction {
        private final Whole above;
        private final Whole below;
        private boolean negative;

        Fraction() {
            above = new Whole();
            below = new Whole();
            below.become(1);
            negative = false;
        }

        void copyFrom(Fraction other) {
            above.copyFrom(other.above);
            below.copyFrom(other.below);
            negative = other.negative;
        }

        boolean fits() {
            return above.size <= FIT_LIMBS && below.size <= FIT_LIMBS;
        }

        int direction() {
            if (above.isZero()) {
                return 0;
            }
            return negative ? -1 : 1;
        }
    }

    /** Divides whole numbers as on paper, a limb of the quotient at a time (Knuth's algorithm D). */
    private static final class Divider {
        private final long[] left;
        private final long[] by;

        Divider() {
            left = new long[ROOM + 1];
            by = new long[ROOM + 1];
        }

        /** Quotient and rest are two numbers, but each may be the dividend or the divisor. */
        void split(Whole dividend, Whole divisor, Whole quotient, Whole rest) {
            if (divisor.isZero()) {
                throw new IllegalStateException("no call divides by 0");
            }
            if (dividend.size < divisor.size) {
                rest.copyFrom(dividend);
                quotient.become(0);
            } else if (divisor.size == 1) {
                rest.become(quotient.becomeQuotient(dividend, divisor.limbs[0]));
            } else {
                splitLong(dividend, divisor, quotient, rest);
            }
        }

        private void splitLong(Whole dividend, Whole divisor, Whole quotient, Whole rest) {
            int length = divisor.size;
            int highest = dividend.size - length;
            Whole.requireDivisor(divisor.limbs[length - 1]);
            // With a top limb of half of BASE or more, a guessed limb is at most two too great.
            long scale = BASE / (divisor.limbs[length - 1] + 1);
            lay(dividend, scale, left);
            lay(divisor, scale, by);
            Whole.requireDivisor(by[length - 1]);
            for (int place = highest; place >= 0; place--) {
                quotient.limbs[place] = takeOff(place, length);
            }
            quotient.settle(highest + 1);
            System.arraycopy(left, 0, rest.limbs, 0, length);
            rest.settle(length);
            rest.becomeQuotient(rest, scale);
        }

        private static void lay(Whole number, long scale, long[] row) {
            long carry = 0;
            for (int i = 0; i < number.size; i++) {
                long sum = number.limbs[i] * scale + carry;
                carry = sum / BASE;
                row[i] = sum - carry * BASE;
            }
            row[number.size] = carry;
        }

        /** Takes the divisor off at this place as often as it goes, and answers how often. */
        private long takeOff(int place, int length) {
            long times = guess(place, length);
            long borrow = 0;
            for (int i = 0; i < length; i++) {
                long difference = left[place + i] - times * by[i] - borrow;
                borrow = -Math.floorDiv(difference, BASE);
                left[place + i] = difference + borrow * BASE;
            }
            left[place + length] -= borrow;
            if (left[place + length] < 0) {
                putBack(place, length);
                times--;
            }
            return times;
        }

        /** From the top three limbs against the top two: the right limb, or rarely one too great. */
        private long guess(int place, int length) {
            int at = place + length;
            long high = left[at] * BASE + left[at - 1];
            long times = high / by[length - 1];
            long over = high - times * by[length - 1];
            for (int i = 0; i < 2 && over < BASE; i++) {
                if (times < BASE && times * by[length - 2] <= over * BASE + left[at - 2]) {
                    break;
                }
                times--;
                over += by[length - 1];
            }
            return times;
        }

        private void putBack(int place, int length) {
            long carry = 0;
            for (int i = 0; i < length; i++) {
                long sum = left[place + i] + by[i] + carry;
                carry = sum >= BASE ? 1 : 0;
                left[place + i] = sum - carry * BASE;
            }
            left[place + length] += carry;
        }
    }

    /**
     * The greatest common measure of two whole numbers. Euclid's way divides long numbers some 700
     * times; Lehmer's makes most of these steps on the leading digits alone and catches the long
     * numbers up with many of them at once.
     */
    private static final class Measure {
        private final Divider divider;
        private final Whole quotient;
        private Whole greater;
        private Whole lesser;
        private Whole rest;
        /** The long numbers are due to become a, b and c, d times what they are. */
        private long a;
        private long b;
        private long c;
        private long d;

        Measure(Divider divider) {
            this.divider = divider;
            quotient = new Whole();
            greater = new Whole();
            lesser = new Whole();
            rest = new Whole();
        }

        /** One of the two is not 0. The answer is good until the next call. */
        Whole of(Whole x, Whole y) {
            boolean ordered = x.order(y) >= 0;
            greater.copyFrom(ordered ? x : y);
            lesser.copyFrom(ordered ? y : x);
            for (int i = 0; i < FAR && greater.size > 2 && !lesser.isZero(); i++) {
                gather();
                if (b == 0) {
                    divider.split(greater, lesser, quotient, rest);
                    shift();
                } else {
                    catchUp();
                }
            }
            if (!lesser.isZero()) {
                greater.become(ofShort(greater.lowest(), lesser.lowest()));
            }
            return greater;
        }

        static long ofShort(long x, long y) {
            long greater = x;
            long lesser = y;
            for (int i = 0; i < FAR && lesser != 0; i++) {
                long rest = greater % lesser;
                greater = lesser;
                lesser = rest;
            }
            return greater;
        }

        private void shift() {
            Whole free = greater;
            greater = lesser;
            lesser = rest;
            rest = free;
        }

        /**
         * Euclid's steps on the leading 18 digits, as long as the digits behind them cannot change a
         * quotient; b stays 0 if there was no such step. What a .. d are multiplied with is less than
         * BASE, so they stay within BASE to keep the sums in catchUp within a long.
         */
        private void gather() {
            long unit = TENS[greater.topLength()];
            long x = leading(greater, unit);
            long y = leading(lesser, unit);
            a = 1;
            b = 0;
            c = 0;
            d = 1;
            for (int i = 0; i < FAR && y + c > 0 && y + d > 0; i++) {
                long times = (x + a) / (y + c);
                if (times != (x + b) / (y + d) || times > BASE) {
                    break;
                }
                long nextC = a - times * c;
                long nextD = b - times * d;
                if (Math.abs(nextC) > BASE || Math.abs(nextD) > BASE) {
                    break;
                }
                a = c;
                b = d;
                c = nextC;
                d = nextD;
                long nextY = x - times * y;
                x = y;
                y = nextY;
            }
        }

        /** The limbs of a number at the places of greater's top three, less the lowest digits there. */
        private long leading(Whole number, long unit) {
            int top = greater.size - 1;
            long upper = number.limbAt(top) * BASE + number.limbAt(top - 1);
            return upper * (BASE / unit) + number.limbAt(top - 2) / unit;
        }

        private void catchUp() {
            int length = greater.size;
            long carryGreater = 0;
            long carryLesser = 0;
            for (int i = 0; i < length; i++) {
                long x = greater.limbs[i];
                long y = lesser.limbAt(i);
                long sumGreater = a * x + b * y + carryGreater;
                long sumLesser = c * x + d * y + carryLesser;
                carryGreater = Math.floorDiv(sumGreater, BASE);
                carryLesser = Math.floorDiv(sumLesser, BASE);
                greater.limbs[i] = sumGreater - carryGreater * BASE;
                lesser.limbs[i] = sumLesser - carryLesser * BASE;
            }
            greater.settle(length);
            lesser.settle(length);
        }
    }

    /** Reckons with fractions; what comes of it stands in out, which need not fit, nor be reduced yet. */
    private static final class Reckoner {
        private final Divider divider;
        private final Measure measure;
        private final Fraction out;
        private final Whole left;
        private final Whole right;
        private final Whole quotient;
        private final Whole rest;

        Reckoner(Divider divider) {
            this.divider = divider;
            measure = new Measure(divider);
            out = new Fraction();
            left = new Whole();
            right = new Whole();
            quotient = new Whole();
            rest = new Whole();
        }

        void requireFit() {
            if (!out.fits()) {
                throw new IllegalStateException("it does not fit");
            }
        }

        void ratio(long above, long below) {
            long common = Measure.ofShort(Math.abs(above), Math.abs(below));
            Whole.requireDivisor(common);
            out.above.become(Math.abs(above) / common);
            out.below.become(Math.abs(below) / common);
            out.negative = above != 0 && (above < 0) != (below < 0);
        }

        void lengthen(Fraction x, int digits) {
            out.copyFrom(x);
            out.above.grow(BASE, digits);
        }

        /** The sum of x and y, y with the sign that is told. */
        void total(Fraction x, Fraction y, boolean negativeY) {
            left.becomeProduct(x.above, y.below);
            right.becomeProduct(y.above, x.below);
            out.below.becomeProduct(x.below, y.below);
            if (x.negative == negativeY) {
                out.above.becomeSum(left, right);
                out.negative = x.negative;
            } else if (left.order(right) >= 0) {
                out.above.becomeDifference(left, right);
                out.negative = x.negative;
            } else {
                out.above.becomeDifference(right, left);
                out.negative = negativeY;
            }
        }

        /** x times above / below with the sign that is told: a product, or a quotient if they are changed over. */
        void product(Fraction x, Whole above, Whole below, boolean negative) {
            out.above.becomeProduct(x.above, above);
            out.below.becomeProduct(x.below, below);
            out.negative = x.negative != negative;
        }

        /**
         * From the highest bit of n on: every power on the way is no longer than the last one, so it
         * fits if that does. Powers of numbers without a common measure have none.
         */
        void raise(Fraction x, int n) {
            out.above.become(1);
            out.below.become(1);
            out.negative = x.negative && n % 2 == 1;
            for (int bit = 7; bit >= 0; bit--) {
                multiplyOut(out);
                if ((n >> bit) % 2 == 1) {
                    multiplyOut(x);
                }
            }
        }

        private void multiplyOut(Fraction by) {
            left.becomeProduct(out.above, by.above);
            right.becomeProduct(out.below, by.below);
            out.above.copyFrom(left);
            out.below.copyFrom(right);
            requireFit();
        }

        void choose(int n, int k) {
            out.above.become(k < 0 || k > n ? 0 : 1);
            out.below.become(1);
            out.negative = false;
            int fewer = Math.min(k, n - k);
            for (int i = 1; i <= fewer; i++) {
                out.above.grow(n - fewer + i, 0);
                out.above.becomeQuotient(out.above, i);
            }
        }

        void shorten(Fraction x, int decimals, int how) {
            left.becomeTenTo(decimals);
            right.becomeProduct(x.above, left);
            divider.split(right, x.below, quotient, rest);
            if (goesUp(x, how)) {
                quotient.grow(1, 1);
            }
            putOut(quotient, decimals, x.negative);
        }

        /** Whether the number without its sign, which the quotient cuts and the rest tells of, is rounded up. */
        private boolean goesUp(Fraction x, int how) {
            switch (how) {
                case FLOOR:
                    return x.negative && !rest.isZero();
                case ROUNDED:
                    rest.grow(2, 0);
                    // A half goes up; with a sign ahead of it that is nearer to 0.
                    return rest.order(x.below) >= (x.negative ? 1 : 0);
                default:
                    return false;
            }
        }

        void extractRoot(Fraction x, int decimals) {
            left.becomeTenTo(2 * decimals);
            right.becomeProduct(x.above, left);
            divider.split(right, x.below, left, rest);
            squareRoot(left, right);
            putOut(right, decimals, false);
        }

        /** Newton's way from above: the guesses fall until the root, rounded down, is reached. */
        private void squareRoot(Whole number, Whole guess) {
            guess.becomeTenTo((number.decimalLength() + 1) / 2);
            boolean falls = true;
            for (int i = 0; i < FAR && falls && !guess.isZero(); i++) {
                divider.split(number, guess, quotient, rest);
                quotient.becomeSum(quotient, guess);
                quotient.becomeQuotient(quotient, 2);
                falls = quotient.order(guess) < 0;
                if (falls) {
                    guess.copyFrom(quotient);
                }
            }
        }

        /** The number over so many decimals. */
        void putOut(Whole number, int decimals, boolean negative) {
            out.above.copyFrom(number);
            out.below.becomeTenTo(decimals);
            out.negative = negative;
        }

        /** Brings what came of a reckoning to lowest terms; below is not 0. */
        void reduce() {
            Whole common = measure.of(out.above, out.below);
            if (!common.isOne()) {
                divider.split(out.above, common, out.above, rest);
                divider.split(out.below, common, out.below, rest);
            }
            if (out.above.isZero()) {
                out.negative = false;
            }
        }

        int order(Fraction x, Fraction y) {
            if (x.negative != y.negative) {
                return x.negative ? -1 : 1;
            }
            left.becomeProduct(x.above, y.below);
            right.becomeProduct(y.above, x.below);
            return x.negative ? right.order(left) : left.order(right);
        }

        int decimalBehind(Fraction x, int k) {
            divider.split(x.above, x.below, quotient, rest);
            int ahead = k;
            while (ahead > LIMB_DIGITS) {
                rest.grow(BASE, 0);
                divider.split(rest, x.below, quotient, rest);
                ahead -= LIMB_DIGITS;
            }
            rest.grow(TENS[ahead], 0);
            divider.split(rest, x.below, quotient, rest);
            return quotient.decimalAt(0);
        }
    }

    /** The weights, and the shares by them. */
    private static final class Sharing {
        private final Divider divider;
        private final int[] weights;
        private final long[] rests;
        private final Whole sum;
        private final Whole product;
        private final Whole rest;
        private final Whole part;

        Sharing(Divider divider) {
            this.divider = divider;
            weights = new int[WEIGHTS];
            rests = new long[WEIGHTS];
            sum = new Whole();
            product = new Whole();
            rest = new Whole();
            part = new Whole();
        }

        int exchange(int k, int w) {
            int before = weights[k];
            weights[k] = w;
            return before;
        }

        long sumOfWeights() {
            long all = 0;
            for (int i = 0; i < WEIGHTS; i++) {
                all += weights[i];
            }
            return all;
        }

        /** Share k of the number; not all weights are 0. The answer is good until the next call. */
        Whole shareOf(Whole number, int k) {
            long all = sumOfWeights();
            long restsInAll = 0;
            sum.become(all);
            for (int i = 0; i < WEIGHTS; i++) {
                product.copyFrom(number);
                product.grow(weights[i], 0);
                divider.split(product, sum, product, rest);
                rests[i] = rest.lowest();
                restsInAll += rests[i];
                if (i == k) {
                    part.copyFrom(product);
                }
            }
            // The rests add up to as many times the sum of the weights as ones are left over.
            if ((rank(k) + 1) * all <= restsInAll) {
                part.grow(1, 1);
            }
            return part;
        }

        /** How many go before k when what is left over is given away. */
        private long rank(int k) {
            long before = 0;
            for (int i = 0; i < WEIGHTS; i++) {
                if (rests[i] > rests[k] || rests[i] == rests[k] && i < k) {
                    before++;
                }
            }
            return before;
        }
    }
}

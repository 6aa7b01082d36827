/**
 * What a checker of programs knows of a number before the program runs: sixteen places, each with
 * a set of numbers, told by known bits and four bounds, and with one number of that set, its
 * witness. The document ../shared/DOC.md says what each call does.
 */
public final class ValueSieve {
    public static final int NONE = -1;

    private static final int PLACES = 16;

    private final Value[] values = new Value[PLACES];
    private final long[] witnesses = new long[PLACES];
    // Work room of the calls, made once: a run of calls makes no object beyond its sieves.
    private final Value x = new Value();
    private final Value y = new Value();
    private final Value made = new Value();
    private int strayCount = 0;

    public ValueSieve() {
        for (int place = 0; place < PLACES; place++) {
            values[place] = new Value();
        }
    }

    public void any(int place, long witness) throws IndexOutOfBoundsException {
        requirePlace(place);
        made.sayAll();
        write(place, made, witness);
    }

    public void constant(int place, long v) throws IndexOutOfBoundsException {
        requirePlace(place);
        made.sayAll();
        made.sayBits(v, 0);
        made.tighten();
        write(place, made, v);
    }

    public void between(int place, boolean unsigned, long from, long to, long witness)
            throws IndexOutOfBoundsException, IllegalArgumentException {
        requirePlace(place);
        made.sayAll();
        if (unsigned) {
            made.sayUnsigned(from, to);
        } else {
            made.saySigned(from, to);
        }
        if (!made.holds(witness)) {
            throw new IllegalArgumentException("the witness is not between the two numbers");
        }
        made.tighten();
        write(place, made, witness);
    }

    public void pattern(int place, long v, long unknown, long witness)
            throws IndexOutOfBoundsException, IllegalArgumentException {
        requirePlace(place);
        made.sayAll();
        made.sayBits(v, unknown);
        if (!made.holds(witness)) {
            throw new IllegalArgumentException("the witness does not have the known bits");
        }
        made.tighten();
        write(place, made, witness);
    }

    public void operate(int operation, int bits, int d, int a, int b)
            throws IndexOutOfBoundsException, IllegalArgumentException {
        requirePlace(d);
        requirePlace(a);
        requirePlace(b);
        if (operation < 0 || operation > Operations.MOVE) {
            throw new IllegalArgumentException("there is no such operation");
        }
        if (bits != 64 && bits != 32) {
            throw new IllegalArgumentException("an operation is of 64 or 32 bits");
        }
        x.take(values[a]);
        y.take(values[b]);
        boolean signed = bits == 32 && operation == Operations.SIGNED_RIGHT;
        long v = signed ? Numbers.extended(witnesses[a], bits) : Numbers.trimmed(witnesses[a], bits);
        long w = Numbers.trimmed(witnesses[b], bits);
        if (signed) {
            x.signExtend(bits);
        } else {
            x.trim(bits);
        }
        y.trim(bits);
        Operations.make(made, operation, x, y, bits - 1);
        made.trim(bits);
        write(d, made, Numbers.trimmed(Operations.reckon(operation, v, w, bits - 1), bits));
    }

    public void cut(int d, int a, int bits) throws IndexOutOfBoundsException, IllegalArgumentException {
        requirePlace(d);
        requirePlace(a);
        if (bits != 8 && bits != 16 && bits != 32 && bits != 64) {
            throw new IllegalArgumentException("a value is cut to 8, 16, 32 or 64 bits");
        }
        made.take(values[a]);
        made.trim(bits);
        write(d, made, Numbers.trimmed(witnesses[a], bits));
    }

    public void extend(int d, int a, int bits) throws IndexOutOfBoundsException, IllegalArgumentException {
        requirePlace(d);
        requirePlace(a);
        if (bits != 8 && bits != 16 && bits != 32) {
            throw new IllegalArgumentException("a value is extended from 8, 16 or 32 bits");
        }
        made.take(values[a]);
        made.signExtend(bits);
        write(d, made, Numbers.extended(witnesses[a], bits));
    }

    public void swap(int d, int a, int bits) throws IndexOutOfBoundsException, IllegalArgumentException {
        requirePlace(d);
        requirePlace(a);
        if (bits != 16 && bits != 32 && bits != 64) {
            throw new IllegalArgumentException("a value is swapped by 16, 32 or 64 bits");
        }
        made.take(values[a]);
        made.turnBytes(bits);
        write(d, made, Numbers.turned(witnesses[a], bits));
    }

    public void join(int d, int a, int b, boolean first) throws IndexOutOfBoundsException {
        requirePlace(d);
        requirePlace(a);
        requirePlace(b);
        made.take(values[a]);
        made.spread(values[b], false);
        write(d, made, first ? witnesses[a] : witnesses[b]);
    }

    public void widen(int d, int a, int b) throws IndexOutOfBoundsException {
        requirePlace(d);
        requirePlace(a);
        requirePlace(b);
        made.take(values[a]);
        made.spread(values[b], true);
        write(d, made, witnesses[b]);
    }

    public boolean branch(int comparison, int a, int b)
            throws IndexOutOfBoundsException, IllegalArgumentException {
        requireComparison(comparison, a, b);
        boolean so = Comparisons.isSo(comparison, witnesses[a], witnesses[b]);
        x.take(values[a]);
        y.take(values[b]);
        Comparisons.refine(so ? comparison : Comparisons.opposite(comparison), x, y);
        write(a, x, witnesses[a]);
        write(b, y, witnesses[b]);
        return so;
    }

    public int decided(int comparison, int a, int b)
            throws IndexOutOfBoundsException, IllegalArgumentException {
        requireComparison(comparison, a, b);
        if (!canBe(comparison, a, b)) {
            return 0;
        }
        return canBe(Comparisons.opposite(comparison), a, b) ? NONE : 1;
    }

    public boolean within(int a, int b) throws IndexOutOfBoundsException {
        requirePlace(a);
        requirePlace(b);
        return values[b].covers(values[a]);
    }

    public boolean has(int place, long v) throws IndexOutOfBoundsException {
        requirePlace(place);
        return values[place].holds(v);
    }

    public long least(int place, boolean unsigned) throws IndexOutOfBoundsException {
        requirePlace(place);
        return unsigned ? values[place].low : values[place].least;
    }

    public long greatest(int place, boolean unsigned) throws IndexOutOfBoundsException {
        requirePlace(place);
        return unsigned ? values[place].high : values[place].greatest;
    }

    public long unknown(int place) throws IndexOutOfBoundsException {
        requirePlace(place);
        return values[place].unknown;
    }

    public long witness(int place) throws IndexOutOfBoundsException {
        requirePlace(place);
        return witnesses[place];
    }

    public int strays() {
        return strayCount;
    }

    private static void requirePlace(int place) {
        if (place < 0 || place >= PLACES) {
            throw new IndexOutOfBoundsException("there is no such place");
        }
    }

    private static void requireComparison(int comparison, int a, int b) {
        requirePlace(a);
        requirePlace(b);
        if (comparison < 0 || comparison > Comparisons.NO_BIT_IN_BOTH) {
            throw new IllegalArgumentException("there is no such comparison");
        }
        if (a == b) {
            throw new IllegalArgumentException("a comparison is of two places");
        }
    }

    private boolean canBe(int comparison, int a, int b) {
        x.take(values[a]);
        y.take(values[b]);
        Comparisons.refine(comparison, x, y);
        return !x.nothing && !y.nothing;
    }

    private void write(int place, Value value, long witness) {
        values[place].take(value);
        witnesses[place] = witness;
        if (!value.holds(witness)) {
            strayCount++;
        }
    }

    /** Sayings of numbers; they are a value once they are tight. A new one has just 0. */
    private static final class Value {
        // Where a bit is unknown, it is 0 in bits.
        long bits = 0;
        long unknown = 0;
        long low = 0;
        long high = 0;
        long least = 0;
        long greatest = 0;
        boolean nothing = false;

        void take(Value other) {
            bits = other.bits;
            unknown = other.unknown;
            low = other.low;
            high = other.high;
            least = other.least;
            greatest = other.greatest;
            nothing = other.nothing;
        }

        void sayAll() {
            nothing = false;
            sayBits(0, -1L);
            sayUnsigned(0, -1L);
            saySigned(Long.MIN_VALUE, Long.MAX_VALUE);
        }

        void sayBits(long v, long open) {
            bits = v & ~open;
            unknown = open;
        }

        void sayUnsigned(long from, long to) {
            low = from;
            high = to;
        }

        void saySigned(long from, long to) {
            least = from;
            greatest = to;
        }

        boolean isSingle() {
            return unknown == 0;
        }

        boolean holds(long v) {
            return !nothing && (v & ~unknown) == bits
                    && !Numbers.below(v, low) && !Numbers.below(high, v)
                    && v >= least && v <= greatest;
        }

        /** Whether all numbers of a value are among these: tight bounds are numbers, so bounds tell. */
        boolean covers(Value other) {
            return (other.unknown & ~unknown) == 0 && (other.bits & ~unknown) == bits
                    && !Numbers.below(other.low, low) && !Numbers.below(high, other.high)
                    && other.least >= least && other.greatest <= greatest;
        }

        /**
         * Among numbers with the same bit 63 the unsigned order is the order of longs, so each of
         * these two halves is one stretch of the numbers that have the known bits.
         */
        void tighten() {
            if (nothing) {
                return;
            }
            long first = firstOfHalf(0);
            long last = lastOfHalf(0);
            long negativeFirst = firstOfHalf(Long.MIN_VALUE);
            long negativeLast = lastOfHalf(Long.MIN_VALUE);
            boolean positive = holds(first);
            boolean negative = holds(negativeFirst);
            if (positive && negative) {
                long open = openBetween(first, last) | openBetween(negativeFirst, negativeLast);
                sayUnsigned(first, negativeLast);
                saySigned(negativeFirst, last);
                sayBits(first, open | (first ^ negativeFirst));
            } else if (positive) {
                sayStretch(first, last);
            } else if (negative) {
                sayStretch(negativeFirst, negativeLast);
            } else {
                nothing = true;
            }
        }

        private void sayStretch(long first, long last) {
            sayUnsigned(first, last);
            saySigned(first, last);
            sayBits(first, openBetween(first, last));
        }

        /**
         * Where the highest bit differs in which two numbers with the known bits differ, both the
         * number with only 1 below it and the one with only 0 lie between them: all the unknown
         * bits from there down take both values.
         */
        private long openBetween(long first, long last) {
            return unknown & Numbers.upToHighest(first ^ last);
        }

        /** The least number of a half (bit 63 as in sign); one that is not held, if there is none. */
        private long firstOfHalf(long sign) {
            long from = Numbers.more(low, Math.max(least, sign));
            return Numbers.firstFrom(from, (bits & Long.MAX_VALUE) | sign, unknown & Long.MAX_VALUE);
        }

        /** The greatest number of a half; turning all bits round turns the order round. */
        private long lastOfHalf(long sign) {
            long to = Numbers.less(high, Math.min(greatest, sign | Long.MAX_VALUE));
            long open = unknown & Long.MAX_VALUE;
            long turnedBits = ~((bits & Long.MAX_VALUE) | sign) & ~open;
            return ~Numbers.firstFrom(~to, turnedBits, open);
        }

        void trim(int n) {
            if (n >= 64) {
                return;
            }
            long rest = Numbers.lowest(n);
            boolean sameAbove = ((low ^ high) & ~rest) == 0;
            long l = low & rest;
            long h = high & rest;
            long v = bits & rest;
            long open = unknown & rest;
            sayAll();
            sayBits(v, open);
            if (sameAbove) {
                sayUnsigned(l, h);
            }
            tighten();
        }

        void signExtend(int n) {
            trim(n);
            long l = low;
            long h = high;
            long half = 1L << (n - 1);
            long v = Numbers.extended(bits, n);
            long open = Numbers.extended(unknown, n);
            sayAll();
            sayBits(v, open);
            if (h < half) {
                saySigned(l, h);
            } else if (l >= half) {
                saySigned(l - 2 * half, h - 2 * half);
            } else {
                saySigned(-half, half - 1);
            }
            tighten();
        }

        void turnBytes(int n) {
            trim(n);
            long v = Numbers.turned(bits, n);
            long open = Numbers.turned(unknown, n);
            sayAll();
            sayBits(v, open);
            tighten();
        }

        /** Joins another value to this one; a bound that would move is given up if far is set. */
        void spread(Value other, boolean far) {
            sayBits(bits, unknown | other.unknown | (bits ^ other.bits));
            if (Numbers.below(other.low, low)) {
                low = far ? 0 : other.low;
            }
            if (Numbers.below(high, other.high)) {
                high = far ? -1L : other.high;
            }
            if (other.least < least) {
                least = far ? Long.MIN_VALUE : other.least;
            }
            if (other.greatest > greatest) {
                greatest = far ? Long.MAX_VALUE : other.greatest;
            }
            tighten();
        }
    }

    /** What the operations make of values, and of numbers. */
    private static final class Operations {
        static final int ADD = 0;
        static final int SUBTRACT = 1;
        static final int MULTIPLY = 2;
        static final int DIVIDE = 3;
        static final int REST = 4;
        static final int AND = 5;
        static final int OR = 6;
        static final int XOR = 7;
        static final int LEFT = 8;
        static final int RIGHT = 9;
        static final int SIGNED_RIGHT = 10;
        static final int MOVE = 11;

        /** The witness's way; farthest is the longest shift, 63 or 31, and so its mask, too. */
        static long reckon(int operation, long v, long w, int farthest) {
            int shift = (int) (w & farthest);
            switch (operation) {
                case ADD:
                    return v + w;
                case SUBTRACT:
                    return v - w;
                case MULTIPLY:
                    return v * w;
                case DIVIDE:
                    return Numbers.quotient(v, w);
                case REST:
                    return v - Numbers.quotient(v, w) * w;
                case AND:
                    return v & w;
                case OR:
                    return v | w;
                case XOR:
                    return v ^ w;
                case LEFT:
                    return v << shift;
                case RIGHT:
                    return v >>> shift;
                case SIGNED_RIGHT:
                    return v >> shift;
                default:
                    return w;
            }
        }

        static void make(Value z, int operation, Value x, Value y, int farthest) {
            z.sayAll();
            switch (operation) {
                case ADD:
                    addition(z, x, y);
                    break;
                case SUBTRACT:
                    subtraction(z, x, y);
                    break;
                case MULTIPLY:
                    multiplication(z, x, y);
                    break;
                case DIVIDE:
                    division(z, x, y);
                    break;
                case REST:
                    remainder(z, x, y);
                    break;
                case AND:
                    z.sayBits(x.bits & y.bits, (x.bits | x.unknown) & (y.bits | y.unknown) & ~(x.bits & y.bits));
                    z.high = Numbers.less(x.high, y.high);
                    break;
                case OR:
                    z.sayBits(x.bits | y.bits, (x.unknown | y.unknown) & ~(x.bits | y.bits));
                    z.low = Numbers.more(x.low, y.low);
                    break;
                case XOR:
                    z.sayBits(x.bits ^ y.bits, x.unknown | y.unknown);
                    break;
                case LEFT:
                case RIGHT:
                case SIGNED_RIGHT:
                    shift(z, operation, x, y, farthest);
                    break;
                default:
                    z.take(y);
                    break;
            }
            z.tighten();
        }

        private static void addition(Value z, Value x, Value y) {
            // The sums with the fewest and with the most carries: where they differ beyond the
            // unknown bits themselves, a carry comes in some sums and in others not.
            long fewest = x.bits + y.bits;
            long most = fewest + x.unknown + y.unknown;
            z.sayBits(fewest, (fewest ^ most) | x.unknown | y.unknown);
            long l = x.low + y.low;
            long h = x.high + y.high;
            if (Numbers.below(l, x.low) == Numbers.below(h, x.high)) {
                z.sayUnsigned(l, h);
            }
            if (Numbers.sumFits(x.least, y.least) && Numbers.sumFits(x.greatest, y.greatest)) {
                z.saySigned(x.least + y.least, x.greatest + y.greatest);
            }
        }

        private static void subtraction(Value z, Value x, Value y) {
            long middle = x.bits - y.bits;
            long open = (middle + x.unknown) ^ (middle - y.unknown);
            z.sayBits(middle, open | x.unknown | y.unknown);
            if (Numbers.below(x.low, y.high) == Numbers.below(x.high, y.low)) {
                z.sayUnsigned(x.low - y.high, x.high - y.low);
            }
            if (Numbers.differenceFits(x.least, y.greatest) && Numbers.differenceFits(x.greatest, y.least)) {
                z.saySigned(x.least - y.greatest, x.greatest - y.least);
            }
        }

        private static void multiplication(Value z, Value x, Value y) {
            int byX = knownBelow(x) + zerosBelow(y);
            int byY = knownBelow(y) + zerosBelow(x);
            z.sayBits(x.bits * y.bits, ~Numbers.lowest(Math.min(byX, byY)));
            if (Numbers.unsignedProductFits(x.high, y.high)) {
                z.sayUnsigned(x.low * y.low, x.high * y.high);
            }
            if (Numbers.productFits(x.least, y.least) && Numbers.productFits(x.least, y.greatest)
                    && Numbers.productFits(x.greatest, y.least) && Numbers.productFits(x.greatest, y.greatest)) {
                long p = x.least * y.least;
                long q = x.least * y.greatest;
                long r = x.greatest * y.least;
                long s = x.greatest * y.greatest;
                z.saySigned(Math.min(Math.min(p, q), Math.min(r, s)), Math.max(Math.max(p, q), Math.max(r, s)));
            }
        }

        private static int knownBelow(Value v) {
            return Numbers.zerosAtEnd(v.unknown);
        }

        private static int zerosBelow(Value v) {
            return Numbers.zerosAtEnd(v.bits | v.unknown);
        }

        private static void division(Value z, Value x, Value y) {
            if (y.low == 0) {
                z.sayUnsigned(0, x.high);
            } else {
                z.sayUnsigned(Numbers.quotient(x.low, y.high), Numbers.quotient(x.high, y.low));
            }
        }

        private static void remainder(Value z, Value x, Value y) {
            if (Numbers.below(x.high, y.low)) {
                z.take(x);
            } else if (y.low == 0) {
                z.sayUnsigned(0, x.high);
            } else {
                z.sayUnsigned(0, Numbers.less(x.high, y.high - 1));
            }
        }

        private static void shift(Value z, int operation, Value x, Value y, int farthest) {
            if (y.isSingle()) {
                shiftBy(z, operation, x, (int) (y.bits & farthest));
                return;
            }
            boolean near = !Numbers.below(farthest, y.high);
            int t = near ? (int) y.low : 0;
            int u = near ? (int) y.high : farthest;
            if (operation == LEFT) {
                z.sayBits(0, ~Numbers.lowest(zerosBelow(x) + t));
            } else if (operation == RIGHT) {
                z.sayUnsigned(x.low >>> u, x.high >>> t);
            } else {
                z.saySigned(Math.min(x.least >> t, x.least >> u), Math.max(x.greatest >> t, x.greatest >> u));
            }
        }

        private static void shiftBy(Value z, int operation, Value x, int s) {
            if (operation == RIGHT) {
                z.sayBits(x.bits >>> s, x.unknown >>> s);
                z.sayUnsigned(x.low >>> s, x.high >>> s);
            } else if (operation == SIGNED_RIGHT) {
                z.sayBits(x.bits >> s, x.unknown >> s);
                z.saySigned(x.least >> s, x.greatest >> s);
            } else {
                z.sayBits(x.bits << s, x.unknown << s);
                if (((x.high << s) >>> s) == x.high) {
                    z.sayUnsigned(x.low << s, x.high << s);
                }
                if (((x.least << s) >> s) == x.least && ((x.greatest << s) >> s) == x.greatest) {
                    z.saySigned(x.least << s, x.greatest << s);
                }
            }
        }
    }

    /** The comparisons of numbers, and what they tell of values. */
    private static final class Comparisons {
        static final int SAME = 0;
        static final int OTHER = 1;
        static final int LESS = 2;
        static final int NOT_MORE = 3;
        static final int MORE = 4;
        static final int NOT_LESS = 5;
        static final int SIGNED_LESS = 6;
        static final int SIGNED_NOT_MORE = 7;
        static final int SIGNED_MORE = 8;
        static final int SIGNED_NOT_LESS = 9;
        static final int BIT_IN_BOTH = 10;
        static final int NO_BIT_IN_BOTH = 11;

        static boolean isSo(int comparison, long v, long w) {
            switch (comparison) {
                case SAME:
                    return v == w;
                case OTHER:
                    return v != w;
                case LESS:
                    return Numbers.below(v, w);
                case NOT_MORE:
                    return !Numbers.below(w, v);
                case MORE:
                    return Numbers.below(w, v);
                case NOT_LESS:
                    return !Numbers.below(v, w);
                case SIGNED_LESS:
                    return v < w;
                case SIGNED_NOT_MORE:
                    return v <= w;
                case SIGNED_MORE:
                    return v > w;
                case SIGNED_NOT_LESS:
                    return v >= w;
                case BIT_IN_BOTH:
                    return (v & w) != 0;
                default:
                    return (v & w) == 0;
            }
        }

        static int opposite(int comparison) {
            if (comparison >= LESS && comparison <= NOT_LESS) {
                return LESS + NOT_LESS - comparison;
            }
            if (comparison >= SIGNED_LESS && comparison <= SIGNED_NOT_LESS) {
                return SIGNED_LESS + SIGNED_NOT_LESS - comparison;
            }
            return comparison ^ 1;
        }

        static void refine(int comparison, Value x, Value y) {
            switch (comparison) {
                case SAME:
                    equate(x, y);
                    break;
                case OTHER:
                    part(x, y);
                    break;
                case LESS:
                    orderStrictly(x, y);
                    break;
                case NOT_MORE:
                    order(x, y);
                    break;
                case MORE:
                    orderStrictly(y, x);
                    break;
                case NOT_LESS:
                    order(y, x);
                    break;
                case SIGNED_LESS:
                    orderSignedStrictly(x, y);
                    break;
                case SIGNED_NOT_MORE:
                    orderSigned(x, y);
                    break;
                case SIGNED_MORE:
                    orderSignedStrictly(y, x);
                    break;
                case SIGNED_NOT_LESS:
                    orderSigned(y, x);
                    break;
                case BIT_IN_BOTH:
                    shareBit(x, y);
                    break;
                default:
                    shareNoBit(x, y);
                    break;
            }
            x.tighten();
            y.tighten();
        }

        private static void equate(Value x, Value y) {
            if (((x.bits ^ y.bits) & ~x.unknown & ~y.unknown) != 0) {
                x.nothing = true;
            }
            x.sayBits(x.bits | y.bits, x.unknown & y.unknown);
            x.sayUnsigned(Numbers.more(x.low, y.low), Numbers.less(x.high, y.high));
            x.saySigned(Math.max(x.least, y.least), Math.min(x.greatest, y.greatest));
            y.take(x);
        }

        private static void part(Value x, Value y) {
            boolean xIsSingle = x.isSingle();
            long xNumber = x.bits;
            if (y.isSingle()) {
                leaveOut(x, y.bits);
            }
            if (xIsSingle) {
                leaveOut(y, xNumber);
            }
        }

        private static void leaveOut(Value x, long v) {
            if (x.isSingle() && x.bits == v) {
                x.nothing = true;
                return;
            }
            // Two numbers or more lie between the bounds, so that none of these steps wraps.
            if (x.low == v) {
                x.low++;
            }
            if (x.high == v) {
                x.high--;
            }
            if (x.least == v) {
                x.least++;
            }
            if (x.greatest == v) {
                x.greatest--;
            }
        }

        private static void orderStrictly(Value x, Value y) {
            if (y.high == 0) {
                x.nothing = true;
            } else {
                x.high = Numbers.less(x.high, y.high - 1);
            }
            if (x.low == -1L) {
                y.nothing = true;
            } else {
                y.low = Numbers.more(y.low, x.low + 1);
            }
        }

        private static void order(Value x, Value y) {
            x.high = Numbers.less(x.high, y.high);
            y.low = Numbers.more(y.low, x.low);
        }

        private static void orderSignedStrictly(Value x, Value y) {
            if (y.greatest == Long.MIN_VALUE) {
                x.nothing = true;
            } else {
                x.greatest = Math.min(x.greatest, y.greatest - 1);
            }
            if (x.least == Long.MAX_VALUE) {
                y.nothing = true;
            } else {
                y.least = Math.max(y.least, x.least + 1);
            }
        }

        private static void orderSigned(Value x, Value y) {
            x.greatest = Math.min(x.greatest, y.greatest);
            y.least = Math.max(y.least, x.least);
        }

        private static void shareBit(Value x, Value y) {
            if (((x.bits | x.unknown) & (y.bits | y.unknown)) == 0) {
                x.nothing = true;
                y.nothing = true;
                return;
            }
            boolean xIsOneBit = x.isSingle() && Long.bitCount(x.bits) == 1;
            long xNumber = x.bits;
            if (y.isSingle() && Long.bitCount(y.bits) == 1) {
                x.sayBits(x.bits | y.bits, x.unknown & ~y.bits);
            }
            if (xIsOneBit) {
                y.sayBits(y.bits | xNumber, y.unknown & ~xNumber);
            }
        }

        private static void shareNoBit(Value x, Value y) {
            if ((x.bits & y.bits) != 0) {
                x.nothing = true;
                y.nothing = true;
                return;
            }
            boolean xIsSingle = x.isSingle();
            if (y.isSingle()) {
                x.sayBits(x.bits, x.unknown & ~y.bits);
            }
            if (xIsSingle) {
                y.sayBits(y.bits, y.unknown & ~x.bits);
            }
        }
    }

    /** Longs as unsigned numbers and as rows of bits. */
    private static final class Numbers {
        static boolean below(long v, long w) {
            return v + Long.MIN_VALUE < w + Long.MIN_VALUE;
        }

        static long less(long v, long w) {
            return below(v, w) ? v : w;
        }

        static long more(long v, long w) {
            return below(v, w) ? w : v;
        }

        /** Unsigned; by 0 it is 0, as the document has it. */
        static long quotient(long v, long w) {
            if (w == 0) {
                return 0;
            }
            if (w < 0) {
                return below(v, w) ? 0 : 1;
            }
            // Half of v is a long that Java can divide; what is left is less than two divisors.
            long nearly = ((v >>> 1) / w) << 1;
            return below(v - nearly * w, w) ? nearly : nearly + 1;
        }

        static boolean sumFits(long v, long w) {
            long sum = v + w;
            return ((v ^ sum) & (w ^ sum)) >= 0;
        }

        static boolean differenceFits(long v, long w) {
            long difference = v - w;
            return ((v ^ w) & (v ^ difference)) >= 0;
        }

        static boolean productFits(long v, long w) {
            if (v == 0) {
                return true;
            }
            // The least long divided by -1 wraps, so that dividing back would not tell.
            if (v == -1L) {
                return w != Long.MIN_VALUE;
            }
            return v * w / v == w;
        }

        static boolean unsignedProductFits(long v, long w) {
            return v == 0 || !below(quotient(-1L, v), w);
        }

        /** The lowest n bits; all of them from 64 on, where Java's shift would begin anew. */
        static long lowest(int n) {
            return n >= 64 ? -1L : (1L << n) - 1;
        }

        static int zerosAtEnd(long v) {
            return Long.bitCount(~v & (v - 1));
        }

        /** All bits from the highest bit 1 of v down. */
        static long upToHighest(long v) {
            long filled = v | (v >>> 1);
            filled |= filled >>> 2;
            filled |= filled >>> 4;
            filled |= filled >>> 8;
            filled |= filled >>> 16;
            return filled | (filled >>> 32);
        }

        /**
         * The least number from a given one on, unsigned, that has these bits where none is open;
         * the least of all that have them, if there is none from there on.
         */
        static long firstFrom(long from, long bits, long open) {
            long wrong = (from ^ bits) & ~open;
            if (wrong == 0) {
                return from;
            }
            long fromWrongDown = upToHighest(wrong);
            long highestWrong = fromWrongDown ^ (fromWrongDown >>> 1);
            if ((bits & highestWrong) != 0) {
                return (from & ~fromWrongDown) | (bits & fromWrongDown);
            }
            // The bits force a 1 down to 0: an open bit above it has to go up, the lowest that can.
            long canRise = open & ~from & ~fromWrongDown;
            if (canRise == 0) {
                return bits;
            }
            long rise = canRise & -canRise;
            return (from & ~(rise - 1)) | rise | (bits & (rise - 1));
        }

        static long trimmed(long v, int n) {
            return v & lowest(n);
        }

        static long extended(long v, int n) {
            int above = n >= 64 ? 0 : 64 - n;
            return (v << above) >> above;
        }

        static long turned(long v, int n) {
            long result = 0;
            for (int bit = 0; bit < n && bit < 64; bit += 8) {
                result = (result << 8) | ((v >>> bit) & 0xFF);
            }
            return result;
        }
    }
}

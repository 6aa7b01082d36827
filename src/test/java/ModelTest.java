import java.math.BigInteger;
import java.util.Random;

/**
 * Runs of calls, drawn with a fixed seed, against a slow model that follows the document's words
 * another way: bounds are BigIntegers, bits are digits, and tightening asks a search whether there
 * is a number with one thing more said of it.
 */
public final class ModelTest {
    private static final BigInteger ONE = BigInteger.ONE;
    private static final BigInteger ZERO = BigInteger.ZERO;
    private static final BigInteger TOP = ONE.shiftLeft(64);
    private static final BigInteger MOST = TOP.subtract(ONE);
    private static final BigInteger LONG_MIN = BigInteger.valueOf(Long.MIN_VALUE);
    private static final BigInteger LONG_MAX = BigInteger.valueOf(Long.MAX_VALUE);
    private static final int OPEN = 2;
    // A step takes this many calls at most, and the last look at all the places this many.
    private static final int STEP_CALLS = 50;
    private static final int LAST_CALLS = 16 * 9;

    private static int wrong = 0;

    private static BigInteger big(long v) {
        return BigInteger.valueOf(v);
    }

    private static BigInteger unsigned(long v) {
        return v >= 0 ? big(v) : big(v).add(TOP);
    }

    private static boolean isLong(BigInteger v) {
        return v.compareTo(LONG_MIN) >= 0 && v.compareTo(LONG_MAX) <= 0;
    }

    private static final class Model {
        int[] digits = new int[64];
        BigInteger low = ZERO;
        BigInteger high = MOST;
        BigInteger least = LONG_MIN;
        BigInteger greatest = LONG_MAX;

        Model() {
            java.util.Arrays.fill(digits, OPEN);
        }

        static Model of(long v) {
            Model m = new Model();
            m.low = unsigned(v);
            m.high = m.low;
            return m.tight();
        }

        Model copy() {
            Model m = new Model();
            m.digits = digits.clone();
            m.low = low;
            m.high = high;
            m.least = least;
            m.greatest = greatest;
            return m;
        }

        long ones() {
            long v = 0;
            for (int k = 0; k < 64; k++) {
                v |= digits[k] == 1 ? 1L << k : 0;
            }
            return v;
        }

        long open() {
            long v = 0;
            for (int k = 0; k < 64; k++) {
                v |= digits[k] == OPEN ? 1L << k : 0;
            }
            return v;
        }

        boolean single() {
            return low.equals(high);
        }

        /** The signed range is one or two unsigned ranges. */
        boolean some(long ones, long open) {
            boolean crosses = least.signum() < 0 && greatest.signum() >= 0;
            if (least.compareTo(greatest) > 0) {
                return false;
            }
            if (crosses) {
                return some(ones, open, ZERO, greatest) || some(ones, open, least.add(TOP), MOST);
            }
            return some(ones, open, unsigned(least.longValueExact()), unsigned(greatest.longValueExact()));
        }

        private boolean some(long ones, long open, BigInteger from, BigInteger to) {
            BigInteger l = low.max(from);
            BigInteger h = high.min(to);
            return l.compareTo(h) <= 0 && search(ones, open, l.longValue(), h.longValue());
        }

        private static boolean search(long ones, long open, long l, long h) {
            long most = ones | open;
            if (Long.compareUnsigned(ones, h) > 0 || Long.compareUnsigned(most, l) < 0) {
                return false;
            }
            if (Long.compareUnsigned(ones, l) >= 0 || Long.compareUnsigned(most, h) <= 0) {
                return true;
            }
            long top = Long.highestOneBit(open);
            return search(ones, open ^ top, l, h) || search(ones | top, open ^ top, l, h);
        }

        /** The number found when each open bit, from above, gets the digit that is wished, if it can. */
        private long seek(boolean wishTop, boolean wish) {
            long ones = ones();
            long open = open();
            for (int k = 63; k >= 0; k--) {
                long bit = 1L << k;
                if ((open & bit) != 0) {
                    boolean one = k == 63 ? wishTop : wish;
                    open ^= bit;
                    if (!some(one ? ones | bit : ones, open)) {
                        one = !one;
                    }
                    ones |= one ? bit : 0;
                }
            }
            return ones;
        }

        boolean none() {
            return !some(ones(), open());
        }

        Model tight() {
            if (none()) {
                return null;
            }
            Model m = new Model();
            m.low = unsigned(seek(false, false));
            m.high = unsigned(seek(true, true));
            m.least = big(seek(true, false));
            m.greatest = big(seek(false, true));
            long ones = ones();
            long open = open();
            for (int k = 0; k < 64; k++) {
                m.digits[k] = digits[k];
                long bit = 1L << k;
                if (digits[k] == OPEN) {
                    boolean zero = some(ones, open ^ bit);
                    boolean one = some(ones | bit, open ^ bit);
                    m.digits[k] = zero && one ? OPEN : one ? 1 : 0;
                }
            }
            return m;
        }

        boolean has(long v) {
            for (int k = 0; k < 64; k++) {
                if (digits[k] != OPEN && digits[k] != (v >>> k & 1)) {
                    return false;
                }
            }
            return unsigned(v).compareTo(low) >= 0 && unsigned(v).compareTo(high) <= 0
                    && big(v).compareTo(least) >= 0 && big(v).compareTo(greatest) <= 0;
        }

        /** Whether no number of this is outside of the other, asked saying by saying. */
        boolean in(Model o) {
            for (int k = 0; k < 64; k++) {
                if (o.digits[k] != OPEN) {
                    Model m = copy();
                    if (m.digits[k] != o.digits[k] && m.digits[k] != OPEN) {
                        return false;
                    }
                    if (m.digits[k] == OPEN) {
                        m.digits[k] = 1 - o.digits[k];
                        if (!m.none()) {
                            return false;
                        }
                    }
                }
            }
            Model[] beyond = {copy(), copy(), copy(), copy()};
            beyond[0].high = high.min(o.low.subtract(ONE));
            beyond[1].low = low.max(o.high.add(ONE));
            beyond[2].greatest = greatest.min(o.least.subtract(ONE));
            beyond[3].least = least.max(o.greatest.add(ONE));
            return (o.low.signum() == 0 || beyond[0].none())
                    && (o.high.equals(MOST) || beyond[1].none())
                    && (o.least.equals(LONG_MIN) || beyond[2].none())
                    && (o.greatest.equals(LONG_MAX) || beyond[3].none());
        }

        Model cut(int n) {
            if (n == 64) {
                return this;
            }
            Model m = new Model();
            for (int k = 0; k < 64; k++) {
                m.digits[k] = k < n ? digits[k] : 0;
            }
            BigInteger step = ONE.shiftLeft(n);
            if (low.divide(step).equals(high.divide(step))) {
                m.low = low.mod(step);
                m.high = high.mod(step);
            }
            return m.tight();
        }

        Model extend(int n) {
            Model c = cut(n);
            Model m = new Model();
            for (int k = 0; k < 64; k++) {
                m.digits[k] = c.digits[Math.min(k, n - 1)];
            }
            BigInteger half = ONE.shiftLeft(n - 1);
            BigInteger step = ONE.shiftLeft(n);
            if (c.high.compareTo(half) < 0) {
                m.least = c.low;
                m.greatest = c.high;
            } else if (c.low.compareTo(half) >= 0) {
                m.least = c.low.subtract(step);
                m.greatest = c.high.subtract(step);
            } else {
                m.least = half.negate();
                m.greatest = half.subtract(ONE);
            }
            return m.tight();
        }

        Model swap(int n) {
            Model c = cut(n);
            Model m = new Model();
            for (int k = 0; k < 64; k++) {
                m.digits[k] = k < n ? c.digits[n - 8 - k / 8 * 8 + k % 8] : 0;
            }
            return m.tight();
        }

        Model join(Model o, boolean widen) {
            Model m = new Model();
            for (int k = 0; k < 64; k++) {
                m.digits[k] = digits[k] == o.digits[k] ? digits[k] : OPEN;
            }
            m.low = low.min(o.low);
            m.high = high.max(o.high);
            m.least = least.min(o.least);
            m.greatest = greatest.max(o.greatest);
            if (widen) {
                m.low = m.low.equals(low) ? low : ZERO;
                m.high = m.high.equals(high) ? high : MOST;
                m.least = m.least.equals(least) ? least : LONG_MIN;
                m.greatest = m.greatest.equals(greatest) ? greatest : LONG_MAX;
            }
            return m.tight();
        }
    }

    /** Digit by digit, with the set of carries that may come in: bit 0 of it for no carry, bit 1 for one. */
    private static int[] sumDigits(int[] x, int[] y, boolean minus) {
        int[] z = new int[64];
        int carries = 1;
        for (int k = 0; k < 64; k++) {
            int digits = 0;
            int next = 0;
            for (int way = 0; way < 8; way++) {
                int a = way & 1;
                int b = way >> 1 & 1;
                int c = way >> 2;
                boolean can = (x[k] == OPEN || x[k] == a) && (y[k] == OPEN || y[k] == b) && (carries >> c & 1) == 1;
                if (can) {
                    int sum = minus ? a - b - c : a + b + c;
                    digits |= 1 << (sum & 1);
                    next |= 1 << (minus ? (sum < 0 ? 1 : 0) : sum / 2);
                }
            }
            z[k] = digits == 3 ? OPEN : digits - 1;
            carries = next;
        }
        return z;
    }

    private static Model operate(int operation, int bits, Model x, Model y) {
        if (bits == 32) {
            Model a = operation == 10 ? x.extend(32) : x.cut(32);
            return told(operation, 31, a, y.cut(32)).tight().cut(32);
        }
        return told(operation, 63, x, y).tight();
    }

    private static Model told(int operation, int farthest, Model x, Model y) {
        Model z = new Model();
        switch (operation) {
            case 0:
                z.digits = sumDigits(x.digits, y.digits, false);
                wrapped(z, x.low.add(y.low), x.high.add(y.high));
                longs(z, x.least.add(y.least), x.greatest.add(y.greatest));
                return z;
            case 1:
                z.digits = sumDigits(x.digits, y.digits, true);
                wrapped(z, x.low.subtract(y.high), x.high.subtract(y.low));
                longs(z, x.least.subtract(y.greatest), x.greatest.subtract(y.least));
                return z;
            case 2:
                return product(z, x, y);
            case 3:
                z.low = y.low.signum() == 0 ? ZERO : x.low.divide(y.high);
                z.high = y.low.signum() == 0 ? x.high : x.high.divide(y.low);
                return z;
            case 4:
                if (x.high.compareTo(y.low) < 0) {
                    return x;
                }
                z.high = y.low.signum() == 0 ? x.high : x.high.min(y.high.subtract(ONE));
                return z;
            case 5:
            case 6:
            case 7:
                return bitwise(operation, z, x, y);
            case 11:
                return y;
            default:
                return shift(operation, farthest, z, x, y);
        }
    }

    private static void wrapped(Model z, BigInteger l, BigInteger h) {
        BigInteger[] a = {l.subtract(l.mod(TOP)), h.subtract(h.mod(TOP))};
        if (a[0].equals(a[1])) {
            z.low = l.mod(TOP);
            z.high = h.mod(TOP);
        }
    }

    private static void longs(Model z, BigInteger l, BigInteger g) {
        if (isLong(l) && isLong(g)) {
            z.least = l;
            z.greatest = g;
        }
    }

    private static int run(int[] digits, boolean zerosOnly) {
        int n = 0;
        while (n < 64 && (digits[n] == 0 || (digits[n] == 1 && !zerosOnly))) {
            n++;
        }
        return n;
    }

    private static Model product(Model z, Model x, Model y) {
        int n = Math.min(run(x.digits, false) + run(y.digits, true), run(y.digits, false) + run(x.digits, true));
        BigInteger product = unsigned(x.ones()).multiply(unsigned(y.ones()));
        for (int k = 0; k < Math.min(n, 64); k++) {
            z.digits[k] = product.testBit(k) ? 1 : 0;
        }
        if (x.high.multiply(y.high).compareTo(MOST) <= 0) {
            z.low = x.low.multiply(y.low);
            z.high = x.high.multiply(y.high);
        }
        BigInteger[] four = {x.least.multiply(y.least), x.least.multiply(y.greatest),
            x.greatest.multiply(y.least), x.greatest.multiply(y.greatest)};
        BigInteger l = four[0];
        BigInteger g = four[0];
        for (BigInteger one : four) {
            l = l.min(one);
            g = g.max(one);
        }
        longs(z, l, g);
        return z;
    }

    private static Model bitwise(int operation, Model z, Model x, Model y) {
        for (int k = 0; k < 64; k++) {
            int a = x.digits[k];
            int b = y.digits[k];
            if (operation == 5) {
                z.digits[k] = a == 0 || b == 0 ? 0 : a == 1 && b == 1 ? 1 : OPEN;
            } else if (operation == 6) {
                z.digits[k] = a == 1 || b == 1 ? 1 : a == 0 && b == 0 ? 0 : OPEN;
            } else {
                z.digits[k] = a == OPEN || b == OPEN ? OPEN : a ^ b;
            }
        }
        if (operation == 5) {
            z.high = x.high.min(y.high);
        }
        if (operation == 6) {
            z.low = x.low.max(y.low);
        }
        return z;
    }

    private static Model shift(int operation, int farthest, Model z, Model x, Model y) {
        if (y.single()) {
            return shiftBy(operation, z, x, y.low.and(big(farthest)).intValue());
        }
        boolean near = y.high.compareTo(big(farthest)) <= 0;
        int t = near ? y.low.intValue() : 0;
        int u = near ? y.high.intValue() : farthest;
        if (operation == 8) {
            int zeros = run(x.digits, true) + t;
            for (int k = 0; k < 64 && k < zeros; k++) {
                z.digits[k] = 0;
            }
        } else if (operation == 9) {
            z.low = x.low.shiftRight(u);
            z.high = x.high.shiftRight(t);
        } else {
            z.least = x.least.shiftRight(t).min(x.least.shiftRight(u));
            z.greatest = x.greatest.shiftRight(t).max(x.greatest.shiftRight(u));
        }
        return z;
    }

    private static Model shiftBy(int operation, Model z, Model x, int s) {
        for (int k = 0; k < 64; k++) {
            if (operation == 8) {
                z.digits[k] = k < s ? 0 : x.digits[k - s];
            } else {
                z.digits[k] = k + s < 64 ? x.digits[k + s] : operation == 9 ? 0 : x.digits[63];
            }
        }
        if (operation == 8) {
            if (x.high.compareTo(ONE.shiftLeft(64 - s)) < 0) {
                z.low = x.low.shiftLeft(s);
                z.high = x.high.shiftLeft(s);
            }
            longs(z, x.least.shiftLeft(s), x.greatest.shiftLeft(s));
        } else if (operation == 9) {
            z.low = x.low.shiftRight(s);
            z.high = x.high.shiftRight(s);
        } else {
            z.least = x.least.shiftRight(s);
            z.greatest = x.greatest.shiftRight(s);
        }
        return z;
    }

    /** The program's own reckoning, that of Java. */
    private static long reckon(int operation, int bits, long v, long w) {
        if (bits == 32) {
            int a = (int) v;
            int b = (int) w;
            int[] answers = {a + b, a - b, a * b, b == 0 ? 0 : Integer.divideUnsigned(a, b),
                b == 0 ? a : Integer.remainderUnsigned(a, b), a & b, a | b, a ^ b, a << b, a >>> b, a >> b, b};
            return answers[operation] & 0xFFFFFFFFL;
        }
        long[] answers = {v + w, v - w, v * w, w == 0 ? 0 : Long.divideUnsigned(v, w),
            w == 0 ? v : Long.remainderUnsigned(v, w), v & w, v | w, v ^ w, v << w, v >>> w, v >> w, w};
        return answers[operation];
    }

    private static long cutNumber(long v, int n) {
        return n == 8 ? v & 0xFF : n == 16 ? v & 0xFFFF : n == 32 ? v & 0xFFFFFFFFL : v;
    }

    private static long extendNumber(long v, int n) {
        return n == 8 ? (byte) v : n == 16 ? (short) v : (int) v;
    }

    private static long swapNumber(long v, int n) {
        return Long.reverseBytes(v) >>> (64 - n);
    }

    private static boolean isSo(int c, long v, long w) {
        int u = Long.compareUnsigned(v, w);
        boolean[] answers = {v == w, v != w, u < 0, u <= 0, u > 0, u >= 0, v < w, v <= w, v > w, v >= w,
            (v & w) != 0, (v & w) == 0};
        return answers[c];
    }

    /** Both refined, or null if the comparison can't be. */
    private static Model[] refine(int c, Model x, Model y) {
        switch (c) {
            case 0:
                return both(x, y);
            case 1:
                return tightened(y.single() ? without(x, y) : x.copy(), x.single() ? without(y, x) : y.copy());
            case 4:
            case 5:
                return turned(refine(c - 2, y, x));
            case 8:
            case 9:
                return turned(refine(c - 2, y, x));
            case 10:
            case 11:
                return refineBits(c, x, y);
            default:
                break;
        }
        Model a = x.copy();
        Model b = y.copy();
        BigInteger step = c == 2 || c == 6 ? ONE : ZERO;
        if (c == 2 || c == 3) {
            a.high = x.high.min(y.high.subtract(step));
            b.low = y.low.max(x.low.add(step));
        } else {
            a.greatest = x.greatest.min(y.greatest.subtract(step));
            b.least = y.least.max(x.least.add(step));
        }
        return tightened(a, b);
    }

    private static Model[] turned(Model[] pair) {
        return pair == null ? null : new Model[] {pair[1], pair[0]};
    }

    private static Model[] tightened(Model a, Model b) {
        if (a == null || b == null || empty(a) || empty(b)) {
            return null;
        }
        return new Model[] {a.tight(), b.tight()};
    }

    private static boolean empty(Model m) {
        return m.low.compareTo(m.high) > 0 || m.least.compareTo(m.greatest) > 0 || m.none();
    }

    private static Model[] both(Model x, Model y) {
        Model m = x.copy();
        for (int k = 0; k < 64; k++) {
            if (y.digits[k] != OPEN) {
                if (x.digits[k] == 1 - y.digits[k]) {
                    return null;
                }
                m.digits[k] = y.digits[k];
            }
        }
        m.low = x.low.max(y.low);
        m.high = x.high.min(y.high);
        m.least = x.least.max(y.least);
        m.greatest = x.greatest.min(y.greatest);
        return tightened(m, m.copy());
    }

    private static Model without(Model x, Model y) {
        if (x.single() && x.low.equals(y.low)) {
            return null;
        }
        Model m = x.copy();
        m.low = x.low.equals(y.low) ? x.low.add(ONE) : x.low;
        m.high = x.high.equals(y.low) ? x.high.subtract(ONE) : x.high;
        m.least = x.least.equals(y.least) ? x.least.add(ONE) : x.least;
        m.greatest = x.greatest.equals(y.least) ? x.greatest.subtract(ONE) : x.greatest;
        return m;
    }

    private static Model[] refineBits(int c, Model x, Model y) {
        boolean may = false;
        boolean must = false;
        for (int k = 0; k < 64; k++) {
            may |= x.digits[k] != 0 && y.digits[k] != 0;
            must |= x.digits[k] == 1 && y.digits[k] == 1;
        }
        if (c == 10 ? !may : must) {
            return null;
        }
        return tightened(withBits(c, x, y), withBits(c, y, x));
    }

    private static Model withBits(int c, Model x, Model y) {
        Model m = x.copy();
        if (y.single() && (c == 11 || y.low.bitCount() == 1)) {
            for (int k = 0; k < 64; k++) {
                if (y.digits[k] == 1) {
                    m.digits[k] = c == 10 ? 1 : 0;
                }
            }
        }
        return m;
    }

    private static final int[] OPPOSITE = {1, 0, 5, 4, 3, 2, 9, 8, 7, 6, 11, 10};

    /** One run: the sieve, the models of its places, and the dice. */
    private static final class Run {
        final Random dice;
        final int number;
        final Sieve sieve = new Sieve();
        final Model[] models = new Model[16];
        final long[] witnesses = new long[16];
        String call = "new";

        Run(int number) {
            this.number = number;
            dice = new Random(7919L * number + 1);
            for (int p = 0; p < 16; p++) {
                models[p] = Model.of(0);
            }
        }

        void check(String what, long got, long due) {
            if (got != due) {
                wrong++;
                System.out.println("run " + number + ", " + call + ": " + what + " is " + got + ", due is " + due);
            }
        }

        void compare(int p) {
            Model m = models[p];
            check("LOW of " + p, sieve.least(p, true), m.low.longValue());
            check("HIGH of " + p, sieve.greatest(p, true), m.high.longValue());
            check("LEAST of " + p, sieve.least(p, false), m.least.longValueExact());
            check("GREATEST of " + p, sieve.greatest(p, false), m.greatest.longValueExact());
            check("unknown of " + p, sieve.unknown(p), m.open());
            check("witness of " + p, sieve.witness(p), witnesses[p]);
            check("has its witness, " + p, sieve.has(p, witnesses[p]) ? 1 : 0, 1);
            check("strays", sieve.strays(), 0);
        }

        long number() {
            long v;
            switch (dice.nextInt(6)) {
                case 0:
                    return dice.nextBoolean() ? dice.nextInt(70) : dice.nextInt(12) - 6;
                case 1:
                    return (1L << dice.nextInt(64)) + dice.nextInt(5) - 2;
                case 2:
                    return -(1L << dice.nextInt(64)) + dice.nextInt(5) - 2;
                case 3:
                    return dice.nextLong() >> dice.nextInt(64);
                case 4:
                    v = dice.nextLong() >>> dice.nextInt(64);
                    return v;
                default:
                    return dice.nextLong() & dice.nextLong() & dice.nextLong();
            }
        }

        long mask() {
            long m = dice.nextBoolean() ? dice.nextLong() & dice.nextLong() : number();
            return dice.nextInt(3) == 0 ? m & 0xFF : m;
        }

        int place() {
            return (number + dice.nextInt(5)) % 16;
        }

        void define(int p) {
            long w = number();
            int kind = dice.nextInt(8);
            if (kind == 0) {
                call = "any";
                sieve.any(p, w);
                models[p] = new Model();
            } else if (kind == 1) {
                call = "constant " + w;
                sieve.constant(p, w);
                models[p] = Model.of(w);
            } else if (kind < 5) {
                long v = number();
                long open = mask();
                w = (v & ~open) | (w & open);
                call = "pattern " + v + " " + open + " " + w;
                sieve.pattern(p, v, open, w);
                models[p] = new Model();
                for (int k = 0; k < 64; k++) {
                    models[p].digits[k] = (open >>> k & 1) == 1 ? OPEN : (int) (v >>> k & 1);
                }
            } else {
                defineBetween(p, number(), number(), kind != 5);
            }
            if (kind != 1 && kind < 5) {
                models[p] = models[p].tight();
            }
            if (kind < 5) {
                witnesses[p] = w;
            }
        }

        void defineBetween(int p, long a, long b, boolean unsigned) {
            if (dice.nextInt(3) == 0) {
                b = a + dice.nextInt(20);
            }
            boolean turn = unsigned ? Long.compareUnsigned(a, b) > 0 : a > b;
            long from = turn ? b : a;
            long to = turn ? a : b;
            long w = to - from == -1 ? number() : from + Long.remainderUnsigned(dice.nextLong(), to - from + 1);
            call = "between " + unsigned + " " + from + " " + to + " " + w;
            sieve.between(p, unsigned, from, to, w);
            Model m = new Model();
            if (unsigned) {
                m.low = unsigned(from);
                m.high = unsigned(to);
            } else {
                m.least = big(from);
                m.greatest = big(to);
            }
            models[p] = m.tight();
            witnesses[p] = w;
        }

        /** One number if it is cut to 32 bits, and many if it is not. */
        void defineOpenAbove(int p) {
            long open = (dice.nextLong() << 32) | (1L << (32 + dice.nextInt(32)));
            long v = dice.nextInt(70);
            long w = v | (dice.nextLong() & open);
            call = "pattern " + v + " " + open + " " + w;
            sieve.pattern(p, v, open, w);
            Model m = new Model();
            for (int k = 0; k < 64; k++) {
                m.digits[k] = (open >>> k & 1) == 1 ? OPEN : (int) (v >>> k & 1);
            }
            set(p, m.tight(), w);
        }

        void set(int d, Model m, long w) {
            models[d] = m;
            witnesses[d] = w;
            compare(d);
        }

        void step() {
            int d = place();
            int a = place();
            int b = place();
            int kind = dice.nextInt(21);
            if (kind == 20) {
                refuse(dice.nextInt(8), d, a, b);
            } else if (kind < 5) {
                define(d);
                compare(d);
            } else if (kind < 10) {
                int operation = dice.nextInt(12);
                int bits = dice.nextInt(3) == 0 ? 32 : 64;
                if (operation >= 8 && operation <= 10 && dice.nextBoolean()) {
                    defineBetween(b, dice.nextInt(70), dice.nextInt(70), true);
                } else if (bits == 32 && dice.nextInt(4) == 0) {
                    defineOpenAbove(b);
                }
                call = "operate " + operation + " " + bits + " " + d + " " + a + " " + b;
                sieve.operate(operation, bits, d, a, b);
                set(d, ModelTest.operate(operation, bits, models[a], models[b]),
                        reckon(operation, bits, witnesses[a], witnesses[b]));
            } else if (kind < 13) {
                convert(kind, d, a);
            } else if (kind == 13) {
                boolean first = dice.nextBoolean();
                call = "join " + d + " " + a + " " + b;
                sieve.join(d, a, b, first);
                set(d, models[a].join(models[b], false), first ? witnesses[a] : witnesses[b]);
            } else if (kind == 14) {
                call = "widen " + d + " " + a + " " + b;
                sieve.widen(d, a, b);
                set(d, models[a].join(models[b], true), witnesses[b]);
            } else if (kind == 15) {
                call = "within " + a + " " + b;
                check("answer", sieve.within(a, b) ? 1 : 0, models[a].in(models[b]) ? 1 : 0);
                ask(a);
            } else if (a != b) {
                compareTwo(dice.nextInt(12), a, b);
            }
        }

        /** A refused call; that it changed nothing is seen by what later calls answer. */
        void refuse(int kind, int d, int a, int b) {
            int none = dice.nextBoolean() ? -1 - dice.nextInt(3) : 16 + dice.nextInt(3);
            call = "refused call " + kind + " with " + none;
            Class<?> got = null;
            try {
                switch (kind) {
                    case 0:
                        sieve.between(d, true, 7, 9, 10);
                        break;
                    case 1:
                        sieve.pattern(d, 8, 3, 4);
                        break;
                    case 2:
                        sieve.operate(none, 64, d, a, b);
                        break;
                    case 3:
                        sieve.cut(d, a, 12);
                        break;
                    case 4:
                        sieve.branch(none, a, b);
                        break;
                    case 5:
                        sieve.branch(3, a, none);
                        break;
                    case 6:
                        sieve.join(d, none, b, true);
                        break;
                    default:
                        sieve.operate(2, 32, d, a, none);
                        break;
                }
            } catch (RuntimeException e) {
                got = e.getClass();
            }
            Class<?> due = kind < 5 ? IllegalArgumentException.class : IndexOutOfBoundsException.class;
            check("what it threw, " + got, got == due ? 1 : 0, 1);
            compare(d);
            compare(a);
            compare(b);
        }

        void ask(int p) {
            Model m = models[p];
            long[] asked = {number(), m.low.longValue() + 1, m.high.longValue() - 1, m.least.longValue() - 1,
                m.greatest.longValue() + 1, m.low.longValue() - 1, m.high.longValue() + 1,
                m.low.longValue() ^ (1L << dice.nextInt(64))};
            for (long v : asked) {
                check("has " + v, sieve.has(p, v) ? 1 : 0, m.has(v) ? 1 : 0);
            }
        }

        void convert(int kind, int d, int a) {
            int bits = kind == 10 ? 8 << dice.nextInt(4) : kind == 11 ? 8 << dice.nextInt(3) : 16 << dice.nextInt(3);
            call = (kind == 10 ? "cut " : kind == 11 ? "extend " : "swap ") + bits + " " + d + " " + a;
            if (kind == 10) {
                sieve.cut(d, a, bits);
                set(d, models[a].cut(bits), cutNumber(witnesses[a], bits));
            } else if (kind == 11) {
                sieve.extend(d, a, bits);
                set(d, models[a].extend(bits), extendNumber(witnesses[a], bits));
            } else {
                sieve.swap(d, a, bits);
                set(d, models[a].swap(bits), swapNumber(witnesses[a], bits));
            }
        }

        /** Single values at another's bounds are where refining has its edges. */
        void defineAtBound(int p, Model m) {
            BigInteger[] bounds = {m.low, m.high, m.least, m.greatest};
            long v = bounds[dice.nextInt(4)].longValue();
            call = "constant " + v;
            sieve.constant(p, v);
            set(p, Model.of(v), v);
        }

        void compareTwo(int c, int a, int b) {
            if (dice.nextInt(4) == 0) {
                defineAtBound(b, models[a]);
            }
            call = "decided " + c + " " + a + " " + b;
            Model[] yes = refine(c, models[a], models[b]);
            Model[] no = refine(OPPOSITE[c], models[a], models[b]);
            check("answer", sieve.decided(c, a, b), yes == null ? 0 : no == null ? 1 : -1);
            compare(a);
            compare(b);
            call = "branch " + c + " " + a + " " + b;
            boolean so = isSo(c, witnesses[a], witnesses[b]);
            check("answer", sieve.branch(c, a, b) ? 1 : 0, so ? 1 : 0);
            Model[] now = so ? yes : no;
            set(a, now[0], witnesses[a]);
            set(b, now[1], witnesses[b]);
        }
    }

    public static void main(String[] args) {
        int runs = args.length > 0 ? Integer.parseInt(args[0]) : 2500;
        for (int number = 0; number < runs && wrong < 50; number++) {
            Run run = new Run(number);
            while (run.sieve.callsLeft() >= STEP_CALLS + LAST_CALLS && wrong < 50) {
                run.step();
            }
            for (int p = 0; p < 16; p++) {
                run.compare(p);
            }
        }
        if (wrong != 0) {
            System.out.println(wrong + " answers are not the model's");
            System.exit(1);
        }
    }
}

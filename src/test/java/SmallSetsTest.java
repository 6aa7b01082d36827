import java.util.Random;

/**
 * Sets small enough to be listed: what a sieve tells of them is compared with the list itself, and
 * every result of a pair of listed numbers must be a number of what the operation made.
 */
public final class SmallSetsTest {
    private static int wrong = 0;

    private static void check(String what, long got, long due) {
        if (got != due) {
            wrong++;
            System.out.println(what + ": answered " + got + ", due is " + due);
        }
    }

    /** All numbers with these bits, at most 2^6, in unsigned order. */
    private static long[] listed(long v, long open) {
        long[] numbers = new long[1 << Long.bitCount(open)];
        long part = 0;
        for (int k = 0; k < numbers.length; k++) {
            numbers[k] = (v & ~open) | part;
            part = (part - open) & open;
        }
        return numbers;
    }

    private static long[] kept(long[] numbers, boolean unsigned, long from, long to) {
        long[] some = new long[numbers.length];
        int n = 0;
        for (long v : numbers) {
            boolean in = unsigned ? Long.compareUnsigned(v, from) >= 0 && Long.compareUnsigned(v, to) <= 0
                    : v >= from && v <= to;
            if (in) {
                some[n++] = v;
            }
        }
        return java.util.Arrays.copyOf(some, n);
    }

    private static long randomMask(Random dice, int bits) {
        long mask = dice.nextInt(3) == 0 ? Long.MIN_VALUE : 0;
        int span = dice.nextBoolean() ? 8 : 64;
        while (Long.bitCount(mask) < bits) {
            mask |= 1L << dice.nextInt(span);
        }
        return mask;
    }

    private static void isTight(String what, Sieve s, int place, long[] numbers) {
        long low = numbers[0];
        long high = numbers[0];
        long least = numbers[0];
        long greatest = numbers[0];
        long open = 0;
        for (long v : numbers) {
            low = Long.compareUnsigned(v, low) < 0 ? v : low;
            high = Long.compareUnsigned(v, high) > 0 ? v : high;
            least = Math.min(least, v);
            greatest = Math.max(greatest, v);
            open |= v ^ numbers[0];
            check(what + ", has " + v, s.has(place, v) ? 1 : 0, 1);
        }
        check(what + ", LOW", s.least(place, true), low);
        check(what + ", HIGH", s.greatest(place, true), high);
        check(what + ", LEAST", s.least(place, false), least);
        check(what + ", GREATEST", s.greatest(place, false), greatest);
        check(what + ", unknown", s.unknown(place), open);
    }

    private static long near(Random dice, long v) {
        int kind = dice.nextInt(4);
        long close = kind == 1 ? v + dice.nextInt(9) - 4 : v;
        return kind == 2 ? dice.nextLong() : kind == 3 ? v ^ (1L << dice.nextInt(64)) : close;
    }

    /** A pattern, met by a range unsigned and by one as longs, and the list of the numbers that are left. */
    private static final class Drawn {
        final long v;
        final long open;
        final long w;
        final long[] from = new long[2];
        final long[] to = new long[2];
        final long[][] left = new long[3][];

        Drawn(Random dice) {
            v = dice.nextInt(4) == 0 ? dice.nextLong() : dice.nextInt(300);
            open = randomMask(dice, 1 + dice.nextInt(4));
            left[0] = listed(v, open);
            w = left[0][dice.nextInt(left[0].length)];
            for (int k = 0; k < 2; k++) {
                boolean unsigned = k == 0;
                long some = near(dice, left[k][dice.nextInt(left[k].length)]);
                long other = near(dice, left[k][dice.nextInt(left[k].length)]);
                boolean low = unsigned ? Long.compareUnsigned(some, w) <= 0 : some <= w;
                boolean high = unsigned ? Long.compareUnsigned(w, other) <= 0 : w <= other;
                from[k] = low ? some : unsigned ? 0 : Long.MIN_VALUE;
                to[k] = high ? other : unsigned ? -1L : Long.MAX_VALUE;
                left[k + 1] = kept(left[k], unsigned, from[k], to[k]);
            }
        }

        long[] numbers() {
            return left[2];
        }

        /** Puts the set to a place; places 0 and 1 are used for it. */
        void put(Sieve s, int place) {
            s.pattern(0, v, open, w);
            for (int k = 0; k < 2; k++) {
                s.between(1, k == 0, from[k], to[k], w);
                s.branch(0, 0, 1);
            }
            s.operate(11, 64, place, 1, 0);
        }

        void isTight(String what) {
            Sieve s = new Sieve();
            s.pattern(0, v, open, w);
            SmallSetsTest.isTight(what + ", pattern", s, 0, left[0]);
            for (int k = 0; k < 2; k++) {
                s.between(1, k == 0, from[k], to[k], w);
                check(what + ", branch", s.branch(0, 0, 1) ? 1 : 0, 1);
                SmallSetsTest.isTight(what + ", between " + from[k] + " and " + to[k], s, 0, left[k + 1]);
                SmallSetsTest.isTight(what + ", the other", s, 1, left[k + 1]);
                check(what + ", within", s.within(0, 1) && s.within(1, 0) ? 1 : 0, 1);
            }
        }
    }

    private static long reckon(int operation, int bits, long v, long w) {
        long mask = bits == 64 ? 63 : 31;
        long a = bits == 64 ? v : operation == 10 ? (int) v : v & 0xFFFFFFFFL;
        long b = bits == 64 ? w : w & 0xFFFFFFFFL;
        long[] answers = {a + b, a - b, a * b, b == 0 ? 0 : Long.divideUnsigned(a, b),
            b == 0 ? a : Long.remainderUnsigned(a, b), a & b, a | b, a ^ b,
            a << (b & mask), a >>> (b & mask), a >> (b & mask), b};
        return bits == 64 ? answers[operation] : answers[operation] & 0xFFFFFFFFL;
    }

    private static void operations(String what, Drawn x, Drawn y) {
        for (int operation = 0; operation < 12; operation++) {
            for (int bits = 32; bits <= 64; bits += 32) {
                Sieve s = new Sieve();
                x.put(s, 2);
                y.put(s, 3);
                s.operate(operation, bits, 4, 2, 3);
                for (long v : x.numbers()) {
                    for (long w : y.numbers()) {
                        check(what + ", operation " + operation + " of " + bits + " on " + v + " and " + w,
                                s.has(4, reckon(operation, bits, v, w)) ? 1 : 0, 1);
                    }
                }
                check(what + ", strays", s.strays(), 0);
            }
        }
    }

    private static boolean isSo(int c, long v, long w) {
        int u = Long.compareUnsigned(v, w);
        boolean[] answers = {v == w, v != w, u < 0, u <= 0, u > 0, u >= 0, v < w, v <= w, v > w, v >= w,
            (v & w) != 0, (v & w) == 0};
        return answers[c];
    }

    private static void comparisons(String what, Drawn x, Drawn y) {
        for (int c = 0; c < 12; c++) {
            Sieve s = new Sieve();
            x.put(s, 2);
            y.put(s, 3);
            boolean some = false;
            boolean all = true;
            for (long v : x.numbers()) {
                for (long w : y.numbers()) {
                    some |= isSo(c, v, w);
                    all &= isSo(c, v, w);
                }
            }
            int got = s.decided(c, 2, 3);
            boolean sound = got == -1 || (got == 0 ? !some : all);
            check(what + ", decided " + c + " is sound", sound ? 1 : 0, 1);
            boolean so = s.branch(c, 2, 3);
            for (long v : x.numbers()) {
                check(what + ", branch " + c + " keeps " + v, s.has(2, v) || !meets(c, so, v, y.numbers()) ? 1 : 0, 1);
            }
            for (long w : y.numbers()) {
                check(what + ", branch " + c + " keeps " + w, s.has(3, w) || !isMet(c, so, x.numbers(), w) ? 1 : 0, 1);
            }
            check(what + ", strays", s.strays(), 0);
        }
    }

    private static boolean meets(int c, boolean so, long v, long[] ys) {
        boolean some = false;
        for (long w : ys) {
            some |= isSo(c, v, w) == so;
        }
        return some;
    }

    private static boolean isMet(int c, boolean so, long[] xs, long w) {
        boolean some = false;
        for (long v : xs) {
            some |= isSo(c, v, w) == so;
        }
        return some;
    }

    /** The bits of sums and differences are told exactly, by the lists of patterns. */
    private static void sums(Random dice, String what) {
        Sieve s = new Sieve();
        long u = dice.nextInt(64);
        long v = dice.nextInt(64);
        long p = dice.nextInt(32) & dice.nextInt(64);
        long q = dice.nextInt(64) & dice.nextInt(32);
        long[] xs = listed(u, p);
        long[] ys = listed(v, q);
        s.pattern(2, u, p, xs[0]);
        s.pattern(3, v, q, ys[0]);
        for (int operation = 0; operation < 2; operation++) {
            s.operate(operation, 64, 4, 2, 3);
            long first = reckon(operation, 64, xs[0], ys[0]);
            long open = 0;
            for (long x : xs) {
                for (long y : ys) {
                    open |= first ^ reckon(operation, 64, x, y);
                }
            }
            check(what + ", unknown bits of operation " + operation, s.unknown(4), open);
        }
    }

    public static void main(String[] args) {
        Random dice = new Random(20261115);
        for (int round = 0; round < 1500 && wrong < 50; round++) {
            String what = "round " + round;
            Drawn x = new Drawn(dice);
            Drawn y = new Drawn(dice);
            x.isTight(what);
            operations(what, x, y);
            comparisons(what, x, y);
            sums(dice, what);
        }
        if (wrong != 0) {
            System.out.println(wrong + " answers are not as due");
            System.exit(1);
        }
    }
}

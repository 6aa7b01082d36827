import java.util.Random;

/**
 * Sets small enough to be listed: what a sieve tells of them is compared with the list itself, and
 * every result of a pair of listed numbers must be a number of what the operation made.
 */
public final class SmallSetsTest {
    private static int wrong = 0;

    private static void check(String what, long got, long due) {
        if (got != due) {
            wrong++;
            System.out.println(what + ": answered " + got + ", due is " + due);
        }
    }

    /** All numbers with these bits, at most 2^6, in unsigned order. */
    private static long[] listed(long v, long open) {
        long[] numbers = new long[1 << Long.bitCount(open)];
        long part = 0;
        for (int k = 0; k < numbers.length; k++) {
            numbers[k] = (v & ~open) | part;
            part = (part - open) & open;
        }
        return numbers;
    }

    private static long[] kept(long[] numbers, boolean unsigned, long from, long to) {
        long[] some = new long[numbers.length];
        int n = 0;
        for (long v : numbers) {
            boolean in = unsigned ? Long.compareUnsigned(v, from) >= 0 && Long.compareUnsigned(v, to) <= 0
                    : v >= from && v <= to;
            if (in) {
                some[n++] = v;
            }
        }
        return java.util.Arrays.copyOf(some, n);
    }

    private static long randomMask(Random dice, int bits) {
        long mask = dice.nextInt(3) == 0 ? Long.MIN_VALUE : 0;
        int span = dice.nextBoolean() ? 8 : 64;
        while (Long.bitCount(mask) < bits) {
            mask |= 1L << dice.nextInt(span);
        }
        return mask;
    }

    private static void isTight(String what, ValueSieve s, int place, long[] numbers) {
        long low = numbers[0];
        long high = numbers[0];
        long least = numbers[0];
        long greatest = numbers[0];
        long open = 0;
        for (long v : numbers) {
            low = Long.compareUnsigned(v, low) < 0 ? v : low;
            high = Long.compareUnsigned(v, high) > 0 ? v : high;
            least = Math.min(least, v);
            greatest = Math.max(greatest, v);
            open |= v ^ numbers[0];
            check(what + ", has " + v, s.has(place, v) ? 1 : 0, 1);
        }
        check(what + ", LOW", s.least(place, true), low);
        check(what + ", HIGH", s.greatest(place, true), high);
        check(what + ", LEAST", s.least(place, false), least);
        check(what + ", GREATEST", s.greatest(place, false), greatest);
        check(what + ", unknown", s.unknown(place), open);
    }

    private static long near(Random dice, long v) {
        int kind = dice.nextInt(4);
        return kind == 0 ? v : kind == 1 ? v + dice.nextInt(9) - 4 : kind == 2 ? dice.nextLong() : v ^ (1L << dice.nextInt(64));
    }

    /** A pattern met by an unsigned and by a signed range, in place 0; the numbers that are left. */
    private static long[] sifted(ValueSieve s, Random dice, String what) {
        long v = dice.nextInt(4) == 0 ? dice.nextLong() : dice.nextInt(300);
        long open = randomMask(dice, 1 + dice.nextInt(5));
        long[] numbers = listed(v, open);
        long w = numbers[dice.nextInt(numbers.length)];
        s.pattern(0, v, open, w);
        isTight(what + ", pattern", s, 0, numbers);
        for (int k = 0; k < 2; k++) {
            boolean unsigned = k == 0;
            long from = near(dice, numbers[dice.nextInt(numbers.length)]);
            long to = near(dice, numbers[dice.nextInt(numbers.length)]);
            boolean low = unsigned ? Long.compareUnsigned(from, w) <= 0 : from <= w;
            boolean high = unsigned ? Long.compareUnsigned(w, to) <= 0 : w <= to;
            from = low ? from : unsigned ? 0 : Long.MIN_VALUE;
            to = high ? to : unsigned ? -1L : Long.MAX_VALUE;
            s.between(1, unsigned, from, to, w);
            check(what + ", branch", s.branch(0, 0, 1) ? 1 : 0, 1);
            numbers = kept(numbers, unsigned, from, to);
            isTight(what + ", between " + from + " and " + to, s, 0, numbers);
            isTight(what + ", the other", s, 1, numbers);
            check(what + ", within", s.within(0, 1) && s.within(1, 0) ? 1 : 0, 1);
        }
        return numbers;
    }

    private static long reckon(int operation, int bits, long v, long w) {
        long mask = bits == 64 ? 63 : 31;
        long a = bits == 64 ? v : operation == 10 ? (int) v : v & 0xFFFFFFFFL;
        long b = bits == 64 ? w : w & 0xFFFFFFFFL;
        long[] answers = {a + b, a - b, a * b, b == 0 ? 0 : Long.divideUnsigned(a, b),
            b == 0 ? a : Long.remainderUnsigned(a, b), a & b, a | b, a ^ b,
            a << (b & mask), a >>> (b & mask), a >> (b & mask), b};
        return bits == 64 ? answers[operation] : answers[operation] & 0xFFFFFFFFL;
    }

    private static void operations(ValueSieve s, String what, long[] xs, long[] ys) {
        for (int operation = 0; operation < 12; operation++) {
            for (int bits = 32; bits <= 64; bits += 32) {
                s.operate(operation, bits, 4, 2, 3);
                for (long v : xs) {
                    for (long w : ys) {
                        check(what + ", operation " + operation + " of " + bits + " on " + v + " and " + w,
                                s.has(4, reckon(operation, bits, v, w)) ? 1 : 0, 1);
                    }
                }
            }
        }
    }

    private static boolean isSo(int c, long v, long w) {
        int u = Long.compareUnsigned(v, w);
        boolean[] answers = {v == w, v != w, u < 0, u <= 0, u > 0, u >= 0, v < w, v <= w, v > w, v >= w,
            (v & w) != 0, (v & w) == 0};
        return answers[c];
    }

    private static void comparisons(ValueSieve s, String what, long[] xs, long[] ys) {
        for (int c = 0; c < 12; c++) {
            boolean some = false;
            boolean all = true;
            for (long v : xs) {
                for (long w : ys) {
                    some |= isSo(c, v, w);
                    all &= isSo(c, v, w);
                }
            }
            int got = s.decided(c, 2, 3);
            boolean sound = got == -1 || (got == 0 ? !some : all);
            check(what + ", decided " + c + " is sound", sound ? 1 : 0, 1);
            s.operate(11, 64, 4, 0, 2);
            s.operate(11, 64, 5, 0, 3);
            boolean so = s.branch(c, 4, 5);
            for (long v : xs) {
                for (long w : ys) {
                    boolean stays = isSo(c, v, w) != so || (s.has(4, v) && s.has(5, w));
                    check(what + ", branch " + c + " keeps " + v + " and " + w, stays ? 1 : 0, 1);
                }
            }
        }
    }

    /** The bits of sums and differences are told exactly, by the lists of patterns. */
    private static void sums(ValueSieve s, Random dice, String what) {
        long u = dice.nextInt(64);
        long v = dice.nextInt(64);
        long p = dice.nextInt(32) & dice.nextInt(64);
        long q = dice.nextInt(64) & dice.nextInt(32);
        long[] xs = listed(u, p);
        long[] ys = listed(v, q);
        s.pattern(2, u, p, xs[0]);
        s.pattern(3, v, q, ys[0]);
        for (int operation = 0; operation < 2; operation++) {
            s.operate(operation, 64, 4, 2, 3);
            long first = reckon(operation, 64, xs[0], ys[0]);
            long open = 0;
            for (long x : xs) {
                for (long y : ys) {
                    open |= first ^ reckon(operation, 64, x, y);
                }
            }
            check(what + ", unknown bits of operation " + operation, s.unknown(4), open);
        }
    }

    public static void main(String[] args) {
        Random dice = new Random(20261115);
        for (int round = 0; round < 1500 && wrong < 50; round++) {
            String what = "round " + round;
            ValueSieve s = new ValueSieve();
            long[] xs = sifted(s, dice, what);
            s.operate(11, 64, 2, 1, 0);
            long[] ys = sifted(s, dice, what);
            s.operate(11, 64, 3, 1, 0);
            operations(s, what, xs, ys);
            comparisons(s, what, xs, ys);
            sums(s, dice, what);
            check(what + ", strays", s.strays(), 0);
        }
        if (wrong != 0) {
            System.out.println(wrong + " answers are not as due");
            System.exit(1);
        }
    }
}

/** The sentences of the operations 0 to 7 and 11, of 64 bits, at their edges. Place 1 is X, 2 is Y, 3 what is made. */
public final class OperationsTest {
    private static final long MIN = Trial.MIN;
    private static final long MAX = Trial.MAX;
    private static final long ALL = Trial.ALL;
    private static final int ADD = 0;
    private static final int SUBTRACT = 1;
    private static final int MULTIPLY = 2;
    private static final int DIVIDE = 3;
    private static final int REST = 4;
    private static final int AND = 5;
    private static final int OR = 6;
    private static final int XOR = 7;
    private static final int MOVE = 11;

    /** All numbers that have these bits, moved up to a given height. */
    private static long[] listed(int v, int open, int height) {
        long[] numbers = new long[1 << Integer.bitCount(open)];
        int part = 0;
        for (int k = 0; k < numbers.length; k++) {
            numbers[k] = (long) (v & ~open | part) << height;
            part = (part - open) & open;
        }
        return numbers;
    }

    /** Every X and Y of three known or open bits, against the list of the sums or differences of all pairs. */
    private static void sumBits(Sentences doc, int operation, String words, int height) {
        for (int p = 0; p < 64; p++) {
            int v = p & 7;
            int open = p >> 3;
            if ((v & open) != 0) {
                continue;
            }
            for (int q = 0; q < 64; q++) {
                int w = q & 7;
                int openY = q >> 3;
                if ((w & openY) == 0) {
                    doc.sentence(words + " - " + v + "?" + open + " and " + w + "?" + openY + " at bit " + height,
                            t -> sumBits(t, operation, listed(v, open, height), listed(w, openY, height)));
                }
            }
        }
    }

    private static void sumBits(Trial t, int operation, long[] xs, long[] ys) {
        long same = 0;
        t.bits(1, xs[0], xs[xs.length - 1] ^ xs[0]);
        t.bits(2, ys[0], ys[ys.length - 1] ^ ys[0]);
        t.make(operation, 64);
        long first = operation == ADD ? xs[0] + ys[0] : xs[0] - ys[0];
        for (long x : xs) {
            for (long y : ys) {
                long z = operation == ADD ? x + y : x - y;
                same |= first ^ z;
                t.holds(3, z);
            }
        }
        t.answers("unknown(3)", t.unknown(3), same);
        t.answers("the known bits", t.least(3, true) & ~same, first & ~same);
    }

    private static void addition(Sentences doc) {
        String bits = "ADD. A bit is known, when it is the same in the sums of all pairs of numbers";
        sumBits(doc, ADD, bits, 0);
        sumBits(doc, ADD, bits, 61);
        doc.sentence(bits + " - though the bounds allow less", t -> {
            t.bits(1, 4, 1);
            t.bits(2, 2, 8);
            t.make(ADD, 64);
            t.isFromTo(3, 6, 15, 9);
            t.lacks(3, 8, 10, 13);
        });
        String low = "ADD. LOW + LOW' and HIGH + HIGH', if neither or both go beyond 2^64 - 1 (then less 2^64)";
        doc.sentence(low + " - neither, HIGH + HIGH' is 2^64 - 1", t -> {
            t.unsigned(1, 1, -2);
            t.unsigned(2, 1, 1);
            t.make(ADD, 64);
            t.is(3, 2, -1, MIN, MAX, ALL);
        });
        doc.sentence(low + " - only HIGH + HIGH' does, by 1", t -> {
            t.unsigned(1, 1, -2);
            t.unsigned(2, 2, 2);
            t.make(ADD, 64);
            t.isAll(3);
        });
        doc.sentence(low + " - both, LOW + LOW' is 2^64", t -> {
            t.unsigned(1, 5, -1);
            t.unsigned(2, -5, -1);
            t.make(ADD, 64);
            t.is(3, 0, -2, MIN, MAX, ALL);
        });
        doc.sentence(low + " - LOW + LOW' is still 2^64 - 1", t -> {
            t.unsigned(1, 5, -1);
            t.unsigned(2, -6, -1);
            t.make(ADD, 64);
            t.isAll(3);
        });
        String least = "ADD. LEAST + LEAST' and GREATEST + GREATEST', if both are longs";
        doc.sentence(least + " - LEAST + LEAST' is -2^63", t -> {
            t.longs(1, MIN + 1, 5);
            t.longs(2, -1, 1);
            t.make(ADD, 64);
            t.is(3, 0, ALL, MIN, 6, ALL);
        });
        doc.sentence(least + " - LEAST + LEAST' is -2^63 - 1", t -> {
            t.longs(1, MIN, 5);
            t.longs(2, -1, 1);
            t.make(ADD, 64);
            t.isAll(3);
        });
        doc.sentence(least + " - GREATEST + GREATEST' is 2^63 - 1", t -> {
            t.longs(1, -5, MAX - 1);
            t.longs(2, -1, 1);
            t.make(ADD, 64);
            t.is(3, 0, ALL, -6, MAX, ALL);
        });
        doc.sentence(least + " - GREATEST + GREATEST' is 2^63", t -> {
            t.longs(1, -5, MAX);
            t.longs(2, -1, 1);
            t.make(ADD, 64);
            t.isAll(3);
        });
        doc.sentence(least + " - far beyond", t -> {
            t.longs(1, -5, 0x5555555555555555L);
            t.longs(2, -5, 0x5555555555555555L);
            t.make(ADD, 64);
            t.isAll(3);
            t.longs(1, MIN, 5);
            t.longs(2, MIN, 5);
            t.make(ADD, 64);
            t.isAll(3);
            t.longs(1, -5, MAX);
            t.longs(2, -5, MAX);
            t.make(ADD, 64);
            t.isAll(3);
        });
        doc.sentence(least + " - one below 0, one above", t -> {
            t.longs(1, -5, 7);
            t.longs(2, 3, 4);
            t.make(ADD, 64);
            t.is(3, 0, ALL, -2, 11, ALL);
            t.operate(ADD, 64, 3, 2, 1);
            t.is(3, 0, ALL, -2, 11, ALL);
            t.longs(2, -9, -4);
            t.make(ADD, 64);
            t.is(3, 0, ALL, -14, 3, ALL);
            t.operate(ADD, 64, 3, 2, 1);
            t.is(3, 0, ALL, -14, 3, ALL);
        });
    }

    private static void subtraction(Sentences doc) {
        String bits = "SUBTRACT Y from X. Bits likewise";
        sumBits(doc, SUBTRACT, bits, 0);
        sumBits(doc, SUBTRACT, bits, 61);
        doc.sentence("SUBTRACT Y from X - not X from Y", t -> {
            t.constant(1, 3);
            t.constant(2, 10);
            t.make(SUBTRACT, 64);
            t.isJust(3, -7);
        });
        String low = "SUBTRACT. LOW - HIGH' and HIGH - LOW', if neither or both go below 0 (then 2^64 more)";
        doc.sentence(low + " - neither, LOW - HIGH' is 0", t -> {
            t.unsigned(1, 5, -2);
            t.unsigned(2, 1, 5);
            t.make(SUBTRACT, 64);
            t.is(3, 0, -3, MIN, MAX, ALL);
        });
        doc.sentence(low + " - only LOW - HIGH' does, by 1", t -> {
            t.unsigned(1, 5, -2);
            t.unsigned(2, 1, 6);
            t.make(SUBTRACT, 64);
            t.isAll(3);
        });
        doc.sentence(low + " - both, HIGH - LOW' is -1", t -> {
            t.unsigned(1, 0, -3);
            t.unsigned(2, -2, -1);
            t.make(SUBTRACT, 64);
            t.is(3, 1, -1, MIN, MAX, ALL);
        });
        doc.sentence(low + " - HIGH - LOW' is still 0", t -> {
            t.unsigned(1, 0, -2);
            t.unsigned(2, -2, -1);
            t.make(SUBTRACT, 64);
            t.isAll(3);
        });
        String least = "SUBTRACT. LEAST - GREATEST' and GREATEST - LEAST', if both are longs";
        doc.sentence(least + " - LEAST - GREATEST' is -2^63", t -> {
            t.longs(1, MIN + 1, 5);
            t.longs(2, -1, 1);
            t.make(SUBTRACT, 64);
            t.is(3, 0, ALL, MIN, 6, ALL);
        });
        doc.sentence(least + " - LEAST - GREATEST' is -2^63 - 1", t -> {
            t.longs(1, MIN, 5);
            t.longs(2, -1, 1);
            t.make(SUBTRACT, 64);
            t.isAll(3);
        });
        doc.sentence(least + " - GREATEST - LEAST' is 2^63 - 1", t -> {
            t.longs(1, -5, MAX - 1);
            t.longs(2, -1, 1);
            t.make(SUBTRACT, 64);
            t.is(3, 0, ALL, -6, MAX, ALL);
        });
        doc.sentence(least + " - GREATEST - LEAST' is 2^63", t -> {
            t.longs(1, -5, MAX);
            t.longs(2, -1, 1);
            t.make(SUBTRACT, 64);
            t.isAll(3);
        });
        doc.sentence(least + " - far beyond", t -> {
            t.longs(1, 0xAAAAAAAAAAAAAAAAL, 5);
            t.longs(2, -5, 0x5555555555555555L);
            t.make(SUBTRACT, 64);
            t.isAll(3);
            t.longs(1, -5, MAX);
            t.longs(2, MIN, 5);
            t.make(SUBTRACT, 64);
            t.isAll(3);
        });
        doc.sentence(least + " - one below 0, one above", t -> {
            t.longs(1, -5, 7);
            t.longs(2, 3, 4);
            t.make(SUBTRACT, 64);
            t.is(3, 0, ALL, -9, 4, ALL);
            t.operate(SUBTRACT, 64, 3, 2, 1);
            t.is(3, 0, ALL, -4, 9, ALL);
            t.longs(2, -9, -4);
            t.make(SUBTRACT, 64);
            t.is(3, 0, ALL, -1, 16, ALL);
            t.operate(SUBTRACT, 64, 3, 2, 1);
            t.is(3, 0, ALL, -16, 1, ALL);
        });
        doc.sentence(least + " - 0 less -2^63 is no long", t -> {
            t.longs(1, -1, 0);
            t.longs(2, MIN, 7);
            t.make(SUBTRACT, 64);
            t.isAll(3);
            t.longs(1, -2, -1);
            t.make(SUBTRACT, 64);
            t.is(3, 0, ALL, -9, MAX, ALL);
        });
    }

    /** X has the known lowest bits of v, n of them; Y those of w, m of them; so many bits are known of their product. */
    private static void lowest(Sentences doc, String edge, long v, int n, long w, int m, int known) {
        String words = "MULTIPLY. the lowest p + s or q + r bits, whatever is less (64 at most), are those of the product";
        doc.sentence(words + " - " + edge, t -> {
            t.bits(1, v, n == 64 ? 0 : -1L << n);
            t.bits(2, w, m == 64 ? 0 : -1L << m);
            t.make(MULTIPLY, 64);
            long open = known == 64 ? 0 : -1L << known;
            long sign = open & MIN;
            long first = v * w & ~open;
            t.is(3, first, first | open, first | sign, first | open & ~sign, open);
        });
    }

    private static void productBits(Sentences doc) {
        lowest(doc, "p = 3, s = 0", 5, 3, 3, 64, 3);
        lowest(doc, "p = 3, s = 1", 5, 3, 6, 64, 4);
        lowest(doc, "q = 3, r = 0", 3, 64, 5, 3, 3);
        lowest(doc, "q = 3, r = 1", 6, 64, 5, 3, 4);
        lowest(doc, "p + s = 6, q + r = 5", 4, 5, 6, 3, 5);
        lowest(doc, "p + s = 5, q + r = 6", 8, 4, 6, 3, 5);
        lowest(doc, "p + s = 5, q + r = 5", 4, 4, 6, 3, 5);
        lowest(doc, "p = 0, q = 0", 0, 0, 0, 0, 0);
        lowest(doc, "p = 1, q = 1, both 0", 0, 1, 0, 1, 2);
        lowest(doc, "p = 0, s = 5", 0, 0, 32, 64, 5);
        lowest(doc, "q + r = 63", 1L << 40, 64, 0, 23, 63);
        lowest(doc, "q + r = 64", 1L << 40, 64, 0, 24, 64);
        lowest(doc, "q + r = 65", 1L << 40, 64, 0, 25, 64);
        lowest(doc, "q + r = 104, p + s = 128", 1L << 40, 64, 0, 64, 64);
        lowest(doc, "p + s = 65, q + r = 70", 0, 35, 0, 35, 64);
        lowest(doc, "all of X is 0, nothing of Y is known", 0, 64, 0, 0, 64);
        lowest(doc, "nothing of X is known, all of Y is 0", 0, 0, 0, 64, 64);
        doc.sentence("MULTIPLY. known, one behind the other from bit 0 on - a known bit behind an open one is none", t -> {
            // Bits 0 to 2 and 4 are known of X.
            t.bits(1, 5, ~23L);
            t.constant(2, 3);
            t.make(MULTIPLY, 64);
            t.is(3, 7, -1, MIN | 7, MAX, ~7L);
        });
        doc.sentence("MULTIPLY. known to be 0 - a 0 behind a 1 is none of these", t -> {
            // 6 is 0, 1, 1, 0, .. from bit 0 on: s is 1.
            t.bits(1, 1, ~1L);
            t.constant(2, 6);
            t.make(MULTIPLY, 64);
            t.is(3, 2, -2, MIN | 2, MAX - 1, ~3L);
        });
        doc.sentence("MULTIPLY. known, one behind the other from bit 0 on - by 1 the bits behind an open one are lost", t -> {
            t.bits(1, 1, 10);
            t.constant(2, 1);
            t.make(MULTIPLY, 64);
            t.isFromTo(3, 1, 11, 14);
            t.operate(MULTIPLY, 64, 3, 2, 1);
            t.isFromTo(3, 1, 11, 14);
        });
        doc.sentence("MULTIPLY (wrapping)", t -> {
            long[][] products = {{MIN, 2, 0}, {-1, -1, 1}, {1L << 32, 1L << 32, 0}, {MAX, MAX, 1}, {MIN, MIN, 0},
                {MIN, -1, MIN}, {MAX, 2, -2}, {0, MIN, 0}, {3, -5, -15}};
            for (long[] p : products) {
                t.constant(1, p[0]);
                t.constant(2, p[1]);
                t.make(MULTIPLY, 64);
                t.isJust(3, p[2]);
            }
        });
    }

    private static void productUnsigned(Sentences doc) {
        String low = "MULTIPLY. LOW * LOW' and HIGH * HIGH', if the latter is at most 2^64 - 1";
        doc.sentence(low + " - it is 2^64 - 1", t -> {
            t.unsigned(1, 2, 3);
            t.unsigned(2, 5, 0x5555555555555555L);
            t.make(MULTIPLY, 64);
            t.is(3, 10, -1, MIN, MAX, ALL);
            t.operate(MULTIPLY, 64, 3, 2, 1);
            t.is(3, 10, -1, MIN, MAX, ALL);
        });
        doc.sentence(low + " - it is 2^64 + 2", t -> {
            t.unsigned(1, 2, 3);
            t.unsigned(2, 5, 0x5555555555555556L);
            t.make(MULTIPLY, 64);
            t.isAll(3);
            t.operate(MULTIPLY, 64, 3, 2, 1);
            t.isAll(3);
        });
        doc.sentence(low + " - it is 2^64", t -> {
            t.unsigned(1, 1, 1L << 32);
            t.unsigned(2, 1, 1L << 32);
            t.make(MULTIPLY, 64);
            t.isAll(3);
        });
        doc.sentence(low + " - 2^64 - 1 by 1, and by 2", t -> {
            t.unsigned(1, 7, -1);
            t.unsigned(2, 1, 1);
            t.make(MULTIPLY, 64);
            t.is(3, 7, -1, MIN, MAX, ALL);
            t.operate(MULTIPLY, 64, 3, 2, 1);
            t.is(3, 7, -1, MIN, MAX, ALL);
            t.unsigned(2, 1, 2);
            t.make(MULTIPLY, 64);
            t.isAll(3);
        });
        doc.sentence(low + " - HIGH is 0", t -> {
            t.constant(1, 0);
            t.any(2, 9);
            t.make(MULTIPLY, 64);
            t.isJust(3, 0);
            t.operate(MULTIPLY, 64, 3, 2, 1);
            t.isJust(3, 0);
        });
    }

    private static void four(Sentences doc, String edge, long[] x, long[] y, long least, long greatest) {
        String words = "MULTIPLY. The least and the greatest of the four products, if all four are longs";
        doc.sentence(words + " - " + edge, t -> {
            t.longs(1, x[0], x[1]);
            t.longs(2, y[0], y[1]);
            t.make(MULTIPLY, 64);
            t.answers("LEAST", t.least(3, false), least);
            t.answers("GREATEST", t.greatest(3, false), greatest);
        });
    }

    private static void productLongs(Sentences doc) {
        long quarter = 1L << 62;
        four(doc, "the third and the fourth", new long[] {-3, 5}, new long[] {-7, 8}, -35, 40);
        four(doc, "the second and the first", new long[] {-5, 3}, new long[] {-8, 7}, -35, 40);
        four(doc, "the second and the third", new long[] {-5, -3}, new long[] {2, 4}, -20, -6);
        four(doc, "the third and the second", new long[] {2, 4}, new long[] {-5, -3}, -20, -6);
        four(doc, "the fourth and the first", new long[] {-5, -3}, new long[] {-8, -7}, 21, 40);
        four(doc, "the first and the fourth", new long[] {3, 5}, new long[] {7, 8}, 21, 40);
        four(doc, "LEAST * LEAST' is 2^63 - 2", new long[] {-quarter + 1, 1}, new long[] {-2, 1}, -quarter + 1, MAX - 1);
        four(doc, "LEAST * LEAST' is 2^63", new long[] {-quarter, 1}, new long[] {-2, 1}, MIN, MAX);
        four(doc, "GREATEST * GREATEST' is 2^63 - 2", new long[] {-1, quarter - 1}, new long[] {-1, 2}, -quarter + 1,
                MAX - 1);
        four(doc, "GREATEST * GREATEST' is 2^63", new long[] {-1, quarter}, new long[] {-1, 2}, MIN, MAX);
        four(doc, "LEAST * GREATEST' is -2^63", new long[] {-quarter, 1}, new long[] {-1, 2}, MIN, quarter);
        four(doc, "LEAST * GREATEST' is -2^63 - 2", new long[] {-quarter - 1, 1}, new long[] {-1, 2}, MIN, MAX);
        four(doc, "GREATEST * LEAST' is -2^63", new long[] {-1, 2}, new long[] {-quarter, 1}, MIN, quarter);
        four(doc, "GREATEST * LEAST' is -2^63 - 2", new long[] {-1, 2}, new long[] {-quarter - 1, 1}, MIN, MAX);
        four(doc, "-2^63 by -1", new long[] {MIN, 3}, new long[] {-1, 1}, MIN, MAX);
        four(doc, "-1 by -2^63", new long[] {-1, 1}, new long[] {MIN, 3}, MIN, MAX);
        four(doc, "-2^63 by 0 and 1", new long[] {MIN, 3}, new long[] {0, 1}, MIN, 3);
        four(doc, "0 and 1 by -2^63", new long[] {0, 1}, new long[] {MIN, 3}, MIN, 3);
        four(doc, "-2^63 + 1 by -1", new long[] {MIN + 1, 3}, new long[] {-1, 0}, -3, MAX);
        doc.sentence("MULTIPLY. The four products, if all four are longs - both bounds and bits come of them", t -> {
            t.longs(1, -5, -3);
            t.longs(2, 2, 4);
            t.make(MULTIPLY, 64);
            t.isFromTo(3, -20, -6, 31);
            t.longs(1, -5, 3);
            t.longs(2, -8, 7);
            t.make(MULTIPLY, 64);
            t.is(3, 0, ALL, -35, 40, ALL);
        });
    }

    private static void division(Sentences doc) {
        doc.sentence("DIVIDE, unsigned; by 0 it is 0", t -> {
            t.between(1, true, 5, 9, 7);
            t.constant(2, 0);
            t.make(DIVIDE, 64);
            t.isOfWitness(3, 0);
            t.isFromTo(3, 0, 9, 15);
            t.any(1, -1);
            t.make(DIVIDE, 64);
            t.isOfWitness(3, 0);
            t.isAll(3);
        });
        doc.sentence("DIVIDE. If LOW' is 0: 0 and HIGH", t -> {
            t.between(1, true, 20, 50, 23);
            t.between(2, true, 0, 7, 5);
            t.make(DIVIDE, 64);
            t.isFromTo(3, 0, 50, 63);
            t.isOfWitness(3, 4);
            t.constant(1, 0);
            t.make(DIVIDE, 64);
            t.isJust(3, 0);
        });
        doc.sentence("DIVIDE. else LOW / HIGH' and HIGH / LOW' - LOW' is 1", t -> {
            t.unsigned(1, 20, 50);
            t.unsigned(2, 1, 7);
            t.make(DIVIDE, 64);
            t.isFromTo(3, 2, 50, 63);
        });
        doc.sentence("DIVIDE. else LOW / HIGH' and HIGH / LOW' - what is over falls away", t -> {
            t.unsigned(1, 20, 50);
            t.unsigned(2, 3, 7);
            t.make(DIVIDE, 64);
            t.isFromTo(3, 2, 16, 31);
            t.unsigned(1, 21, 51);
            t.make(DIVIDE, 64);
            t.isFromTo(3, 3, 17, 31);
        });
        doc.sentence("DIVIDE, unsigned - numbers from 2^63 on", t -> {
            long[][] quotients = {{-1, 1, -1}, {-1, 2, MAX}, {-1, 3, 0x5555555555555555L}, {-2, 3, 0x5555555555555554L},
                {-1, 10, 1844674407370955161L}, {-1, MAX, 2}, {-2, MAX, 2}, {-3, MAX, 1}, {-1, MIN, 1}, {MAX, MIN, 0},
                {MIN, MIN, 1}, {-2, -1, 0}, {-1, -1, 1}, {MIN, MAX, 1}, {MIN, 1, MIN}, {5, -1, 0}, {0, 5, 0}};
            for (long[] q : quotients) {
                t.constant(1, q[0]);
                t.constant(2, q[1]);
                t.make(DIVIDE, 64);
                t.isJust(3, q[2]);
            }
        });
        doc.sentence("DIVIDE, unsigned - bounds from 2^63 on", t -> {
            t.unsigned(1, -10, -1);
            t.unsigned(2, MAX, MIN);
            t.make(DIVIDE, 64);
            t.isFromTo(3, 1, 2, 3);
            t.unsigned(1, -2, -1);
            t.constant(2, -1);
            t.make(DIVIDE, 64);
            t.isFromTo(3, 0, 1, 1);
            t.unsigned(1, 20, MIN + 5);
            t.unsigned(2, 2, 7);
            t.make(DIVIDE, 64);
            t.isFromTo(3, 2, (1L << 62) + 2, MAX);
            t.constant(1, -1);
            t.unsigned(2, 3, MIN + 5);
            t.make(DIVIDE, 64);
            t.isFromTo(3, 1, 0x5555555555555555L, MAX);
            t.unsigned(2, 0, MIN + 5);
            t.make(DIVIDE, 64);
            t.isAll(3);
        });
        doc.sentence("DIVIDE - no bit is said", t -> {
            t.bits(1, 8, 4);
            t.constant(2, 1);
            t.make(DIVIDE, 64);
            t.isFromTo(3, 8, 12, 7);
        });
    }

    private static void rest(Sentences doc) {
        doc.sentence("REST of a division, unsigned; by 0 it is X's number", t -> {
            t.between(1, true, 5, 9, 7);
            t.constant(2, 0);
            t.make(REST, 64);
            t.isOfWitness(3, 7);
            t.any(1, MIN);
            t.make(REST, 64);
            t.isOfWitness(3, MIN);
        });
        doc.sentence("REST. If HIGH is less than LOW': X - by 1", t -> {
            t.bits(1, 8, 5);
            t.unsigned(2, 14, 20);
            t.make(REST, 64);
            t.isFromTo(3, 8, 13, 5);
        });
        doc.sentence("REST. If HIGH is less than LOW': X - HIGH is LOW'", t -> {
            t.bits(1, 8, 5);
            t.unsigned(2, 13, 20);
            t.make(REST, 64);
            t.isFromTo(3, 0, 13, 15);
            t.constant(2, 13);
            t.make(REST, 64);
            t.isFromTo(3, 0, 12, 15);
        });
        doc.sentence("REST. If HIGH is less than LOW': X - unsigned, LOW' is 2^63", t -> {
            t.bits(1, 8, 5);
            t.unsigned(2, MIN, -1);
            t.make(REST, 64);
            t.isFromTo(3, 8, 13, 5);
            t.longs(1, MIN + 4, MIN + 5);
            t.constant(2, 7);
            t.make(REST, 64);
            t.isFromTo(3, 0, 6, 7);
            t.isOfWitness(3, 5);
        });
        doc.sentence("REST. Else 0 and, if LOW' is 0, HIGH", t -> {
            t.bits(1, 8, 5);
            t.unsigned(2, 0, 2);
            t.make(REST, 64);
            t.isFromTo(3, 0, 13, 15);
            t.constant(2, 0);
            t.make(REST, 64);
            t.isFromTo(3, 0, 13, 15);
            t.unsigned(2, 0, 90);
            t.make(REST, 64);
            t.isFromTo(3, 0, 13, 15);
        });
        doc.sentence("REST. else the less of HIGH and HIGH' - 1", t -> {
            t.bits(1, 8, 5);
            t.unsigned(2, 3, 7);
            t.make(REST, 64);
            t.isFromTo(3, 0, 6, 7);
            t.unsigned(2, 3, 13);
            t.make(REST, 64);
            t.isFromTo(3, 0, 12, 15);
            t.unsigned(2, 3, 14);
            t.make(REST, 64);
            t.isFromTo(3, 0, 13, 15);
            t.unsigned(2, 3, 15);
            t.make(REST, 64);
            t.isFromTo(3, 0, 13, 15);
            t.unsigned(2, 3, -1);
            t.make(REST, 64);
            t.isFromTo(3, 0, 13, 15);
        });
        doc.sentence("REST. else the less of HIGH and HIGH' - 1 - by just 1 it is just 0", t -> {
            t.any(1, 77);
            t.constant(2, 1);
            t.make(REST, 64);
            t.isJust(3, 0);
        });
        doc.sentence("REST of a division, unsigned - numbers and bounds from 2^63 on", t -> {
            t.constant(1, -1);
            t.constant(2, MIN);
            t.make(REST, 64);
            t.isFromTo(3, 0, MAX, MAX);
            t.isOfWitness(3, MAX);
            t.constant(2, 10);
            t.make(REST, 64);
            t.isFromTo(3, 0, 9, 15);
            t.isOfWitness(3, 5);
            t.any(1, -2);
            t.constant(2, -1);
            t.make(REST, 64);
            t.is(3, 0, -2, MIN, MAX, ALL);
            t.isOfWitness(3, -2);
            t.unsigned(2, 3, MIN + 9);
            t.make(REST, 64);
            t.is(3, 0, MIN + 8, MIN, MAX, ALL);
            t.unsigned(2, 0, MIN + 9);
            t.make(REST, 64);
            t.isAll(3);
            t.unsigned(1, 5, MIN + 9);
            t.make(REST, 64);
            t.is(3, 0, MIN + 9, MIN, MAX, ALL);
            t.constant(2, 0);
            t.make(REST, 64);
            t.is(3, 0, MIN + 9, MIN, MAX, ALL);
        });
    }

    /** For each bit, known to be 0, known to be 1, or open (2), in X and in Y: what it is in what is made. */
    private static void bitTable(Sentences doc, int operation, String words, int[] due) {
        for (int bit : new int[] {0, 1, 31, 32, 63}) {
            long weight = 1L << bit;
            doc.sentence(words + " - bit " + bit, t -> bitTable(t, operation, weight, 0, due));
            // With open bits about it the bounds can't tell of the bit.
            doc.sentence(words + " - bit " + bit + " among open ones", t -> bitTable(t, operation, weight, ~weight, due));
        }
    }

    private static void bitTable(Trial t, int operation, long weight, long about, int[] due) {
        for (int x = 0; x < 3; x++) {
            for (int y = 0; y < 3; y++) {
                t.bits(1, x == 1 ? weight : 0, about | (x == 2 ? weight : 0));
                t.bits(2, y == 1 ? weight : 0, about | (y == 2 ? weight : 0));
                t.make(operation, 64);
                int z = due[3 * x + y];
                t.answers("unknown of " + x + " and " + y, t.unknown(3), about | (z == 2 ? weight : 0));
                t.answers("has it, of " + x + " and " + y, t.has(3, weight | about), z != 0);
                t.answers("lacks it, of " + x + " and " + y, t.has(3, about), z != 1);
            }
        }
    }

    private static void bitwise(Sentences doc) {
        bitTable(doc, AND, "AND. A bit is known to be 0 when it is so in one, 1 when it is in both",
                new int[] {0, 0, 0, 0, 1, 2, 0, 2, 2});
        bitTable(doc, OR, "OR. A bit is known to be 1 when it is so in one, 0 when it is in both",
                new int[] {0, 1, 2, 1, 1, 1, 2, 1, 2});
        bitTable(doc, XOR, "XOR. A bit is known when it is in both", new int[] {0, 1, 2, 1, 0, 2, 2, 2, 2});
        doc.sentence("AND. HIGH: the less of both", t -> {
            t.unsigned(1, 5, 9);
            t.unsigned(2, 6, 12);
            t.make(AND, 64);
            t.isFromTo(3, 0, 9, 15);
            t.operate(AND, 64, 3, 2, 1);
            t.isFromTo(3, 0, 9, 15);
            t.unsigned(2, 6, 9);
            t.make(AND, 64);
            t.isFromTo(3, 0, 9, 15);
        });
        doc.sentence("AND. HIGH: the less of both - unsigned", t -> {
            t.unsigned(1, 5, 9);
            t.unsigned(2, MIN, -1);
            t.make(AND, 64);
            t.isFromTo(3, 0, 9, 15);
            t.unsigned(1, MIN + 5, MIN + 9);
            t.any(2, 3);
            t.make(AND, 64);
            t.is(3, 0, MIN + 9, MIN, 15, MIN | 15);
        });
        doc.sentence("AND. HIGH: the less of both - and no LOW, LEAST or GREATEST is said, even of -1", t -> {
            t.unsigned(1, 5, 9);
            t.constant(2, -1);
            t.make(AND, 64);
            t.isFromTo(3, 0, 9, 15);
            t.operate(AND, 64, 3, 2, 1);
            t.isFromTo(3, 0, 9, 15);
            t.longs(1, -3, 5);
            t.make(AND, 64);
            t.isAll(3);
        });
        doc.sentence("OR. LOW: the greater of both", t -> {
            t.unsigned(1, 5, 9);
            t.unsigned(2, 6, 12);
            t.make(OR, 64);
            t.isFromTo(3, 6, 15, 15);
            t.operate(OR, 64, 3, 2, 1);
            t.isFromTo(3, 6, 15, 15);
            t.constant(2, 0);
            t.make(OR, 64);
            t.isFromTo(3, 5, 15, 15);
        });
        doc.sentence("OR. LOW: the greater of both - and no LEAST or GREATEST is said, even of 0", t -> {
            t.longs(1, -3, 5);
            t.constant(2, 0);
            t.make(OR, 64);
            t.isAll(3);
            t.operate(OR, 64, 3, 2, 1);
            t.isAll(3);
        });
        doc.sentence("OR. LOW: the greater of both - unsigned", t -> {
            t.unsigned(1, 5, 9);
            t.unsigned(2, MIN + 3, MIN + 4);
            t.make(OR, 64);
            t.isFromTo(3, MIN + 3, MIN + 15, 15);
            t.operate(OR, 64, 3, 2, 1);
            t.isFromTo(3, MIN + 3, MIN + 15, 15);
        });
        doc.sentence("XOR. A bit is known when it is in both - and no bound is said", t -> {
            t.unsigned(1, 5, 6);
            t.constant(2, 8);
            t.make(XOR, 64);
            t.isFromTo(3, 12, 15, 3);
            t.longs(1, -3, 2);
            t.constant(2, 0);
            t.make(XOR, 64);
            t.isAll(3);
        });
    }

    private static void move(Sentences doc) {
        doc.sentence("MOVE: Y - and all that is said of it", t -> {
            t.any(1, 77);
            t.between(2, false, -3, 5, 4);
            t.make(MOVE, 64);
            t.is(3, 0, ALL, -3, 5, ALL);
            t.isOfWitness(3, 4);
            t.between(2, true, 3, MIN, MIN);
            t.make(MOVE, 64);
            t.is(3, 3, MIN, MIN, MAX, ALL);
            t.isOfWitness(3, MIN);
            t.pattern(2, 8, 5, 12);
            t.make(MOVE, 64);
            t.isFromTo(3, 8, 13, 5);
            t.isOfWitness(3, 12);
        });
        doc.sentence("operate: An operation on places a and b goes to place d - d may be a, b, or both", t -> {
            t.unsigned(4, 7, 9);
            t.unsigned(5, 1, 2);
            t.operate(SUBTRACT, 64, 4, 4, 5);
            t.isFromTo(4, 5, 8, 15);
            t.isFromTo(5, 1, 2, 3);
            t.operate(SUBTRACT, 64, 5, 4, 5);
            t.isFromTo(4, 5, 8, 15);
            t.isFromTo(5, 3, 7, 7);
            t.operate(ADD, 64, 5, 5, 5);
            t.isFromTo(5, 6, 14, 15);
            t.isOfWitness(5, 10);
        });
        for (int p = 0; p < 16; p++) {
            int place = p;
            doc.sentence("operate: An operation on places a and b goes to place d - place " + p, t -> {
                int a = (place + 5) % 16;
                int b = (place + 11) % 16;
                t.between(a, true, 10, 12, 11);
                t.between(b, true, 3, 4, 4);
                t.operate(SUBTRACT, 64, place, a, b);
                t.isFromTo(place, 6, 9, 15);
                t.isOfWitness(place, 7);
                t.isFromTo(a, 10, 12, 7);
                t.isFromTo(b, 3, 4, 7);
                for (int other = 0; other < 16; other++) {
                    if (other != place && other != a && other != b) {
                        t.isJust(other, 0);
                    }
                }
            });
        }
    }

    public static void main(String[] args) {
        Sentences doc = new Sentences();
        addition(doc);
        subtraction(doc);
        productBits(doc);
        productUnsigned(doc);
        productLongs(doc);
        division(doc);
        rest(doc);
        bitwise(doc);
        move(doc);
        doc.end();
    }
}

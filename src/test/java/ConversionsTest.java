/** The sentences on cutting, extending, swapping, joining and widening (promises 7 to 11), at their edges. */
public final class ConversionsTest {
    private static final long MIN = Trial.MIN;
    private static final long MAX = Trial.MAX;
    private static final long ALL = Trial.ALL;

    private static void cut(Sentences doc, int n) {
        long top = 1L << n;
        long most = top - 1;
        String of = " - to " + n;
        doc.sentence("TO CUT to n bits: bits from n on are known to be 0, the others as they are" + of, t -> {
            t.bits(1, 4, top | 1 | MIN);
            t.cut(2, 1, n);
            t.isFromTo(2, 4, 5, 1);
            t.constant(1, most);
            t.cut(2, 1, n);
            t.isJust(2, most);
            t.constant(1, top);
            t.cut(2, 1, n);
            t.isJust(2, 0);
            t.constant(1, -1);
            t.cut(2, 1, n);
            t.isJust(2, most);
            t.any(1, top + 7);
            t.cut(2, 1, n);
            t.isFromTo(2, 0, most, most);
            t.isOfWitness(2, 7);
            t.isAll(1);
        });
        String words = "TO CUT. LOW and HIGH without their bits from n on, if these are the same in both";
        doc.sentence(words + of + ", 2^n to 2^(n + 1) - 1", t -> {
            t.unsigned(1, top, top + most);
            t.cut(2, 1, n);
            t.isFromTo(2, 0, most, most);
            t.unsigned(1, top + 1, top + most - 1);
            t.cut(2, 1, n);
            t.isFromTo(2, 1, most - 1, most);
            t.unsigned(1, 3 * top + 5, 3 * top + 9);
            t.cut(2, 1, n);
            t.isFromTo(2, 5, 9, 15);
            t.unsigned(1, -3, -1);
            t.cut(2, 1, n);
            t.isFromTo(2, most - 2, most, 3);
        });
        doc.sentence(words + of + ", 0 to 2^n - 1", t -> {
            t.unsigned(1, 5, most);
            t.cut(2, 1, n);
            t.isFromTo(2, 5, most, most);
            t.unsigned(1, 5, most - 1);
            t.cut(2, 1, n);
            t.isFromTo(2, 5, most - 1, most);
        });
        doc.sentence(words + of + ", they are not", t -> {
            t.unsigned(1, most, top);
            t.cut(2, 1, n);
            t.isFromTo(2, 0, most, most);
            t.unsigned(1, 5, top);
            t.cut(2, 1, n);
            t.isFromTo(2, 0, most, most);
            t.unsigned(1, top + 5, MIN + top + 9);
            t.cut(2, 1, n);
            t.isFromTo(2, 0, most, most);
            t.longs(1, -1, 0);
            t.cut(2, 1, n);
            t.isFromTo(2, 0, most, most);
            // 3 .. 7 and 2^63 + 5 .. 2^63 + 9: only bit 63 is not the same.
            t.between(1, true, 3, MIN + 9, 5);
            t.between(2, false, MIN + 5, 7, 5);
            t.branch(0, 1, 2);
            t.cut(2, 1, n);
            t.isFromTo(2, 0, 15, 15);
        });
        doc.sentence("cut: it goes to place d - and d may be a" + of, t -> {
            t.between(6, true, 2 * top + 3, 2 * top + 7, 2 * top + 4);
            t.any(9, 1);
            t.cut(15, 6, n);
            t.isFromTo(15, 3, 7, 7);
            t.isOfWitness(15, 4);
            t.isFromTo(6, 2 * top + 3, 2 * top + 7, 7);
            t.isOfWitness(6, 2 * top + 4);
            t.cut(6, 6, n);
            t.isFromTo(6, 3, 7, 7);
            t.isOfWitness(6, 4);
        });
    }

    private static void cutTo64(Sentences doc) {
        doc.sentence("cut to 8, 16 or 32 bits (or 64: as it is)", t -> {
            t.between(1, false, -3, 5, -2);
            t.cut(2, 1, 64);
            t.is(2, 0, ALL, -3, 5, ALL);
            t.isOfWitness(2, -2);
            t.between(1, true, 3, MIN + 5, MIN);
            t.cut(2, 1, 64);
            t.is(2, 3, MIN + 5, MIN, MAX, ALL);
            t.isOfWitness(2, MIN);
            t.pattern(1, MIN | 8, 5, MIN | 9);
            t.cut(1, 1, 64);
            t.isFromTo(1, MIN | 8, MIN | 13, 5);
        });
    }

    private static void extend(Sentences doc, int n) {
        long top = 1L << n;
        long half = top / 2;
        String of = " - from " + n;
        doc.sentence("TO EXTEND from n bits: the value is cut" + of, t -> {
            t.unsigned(1, 6 * top + 5, 6 * top + 9);
            t.extend(2, 1, n);
            t.isFromTo(2, 5, 9, 15);
            t.constant(1, top);
            t.extend(2, 1, n);
            t.isJust(2, 0);
            t.constant(1, top + half);
            t.extend(2, 1, n);
            t.isJust(2, -half);
            t.constant(1, MIN);
            t.extend(2, 1, n);
            t.isJust(2, 0);
        });
        doc.sentence("TO EXTEND: then bits from n on are known if bit n - 1 is, and like it" + of, t -> {
            t.bits(1, 1, 2);
            t.extend(2, 1, n);
            t.isFromTo(2, 1, 3, 2);
            t.bits(1, half | 1, 2);
            t.extend(2, 1, n);
            t.isFromTo(2, -half + 1, -half + 3, 2);
            t.bits(1, 1, half);
            t.extend(2, 1, n);
            t.is(2, 1, -half + 1, -half + 1, 1, -half);
        });
        String words = "TO EXTEND: LEAST and GREATEST are l and h if h is below 2^(n - 1)";
        doc.sentence(words + of, t -> {
            t.unsigned(1, 5, half - 1);
            t.extend(2, 1, n);
            t.isFromTo(2, 5, half - 1, half - 1);
            t.unsigned(1, half - 1, half - 1);
            t.extend(2, 1, n);
            t.isJust(2, half - 1);
        });
        doc.sentence("TO EXTEND: l - 2^n and h - 2^n, if l isn't" + of, t -> {
            t.unsigned(1, half, top - 2);
            t.extend(2, 1, n);
            t.isFromTo(2, -half, -2, half - 1);
            t.unsigned(1, half + 3, half + 6);
            t.extend(2, 1, n);
            t.isFromTo(2, -half + 3, -half + 6, 7);
            t.constant(1, top - 1);
            t.extend(2, 1, n);
            t.isJust(2, -1);
            t.constant(1, half);
            t.extend(2, 1, n);
            t.isJust(2, -half);
        });
        doc.sentence("TO EXTEND: else -2^(n - 1) and 2^(n - 1) - 1" + of, t -> {
            t.unsigned(1, half - 1, half);
            t.extend(2, 1, n);
            t.is(2, 0, ALL, -half, half - 1, ALL);
            t.unsigned(1, 5, half);
            t.extend(2, 1, n);
            t.is(2, 0, ALL, -half, half - 1, ALL);
            t.unsigned(1, half - 1, top - 2);
            t.extend(2, 1, n);
            t.is(2, 0, ALL, -half, half - 1, ALL);
            t.any(1, half);
            t.extend(2, 1, n);
            t.is(2, 0, ALL, -half, half - 1, ALL);
            t.isOfWitness(2, -half);
        });
        doc.sentence("extend: it goes to place d - and d may be a" + of, t -> {
            t.between(6, true, top + half + 3, top + half + 6, top + half + 4);
            t.any(9, 1);
            t.extend(15, 6, n);
            t.isFromTo(15, -half + 3, -half + 6, 7);
            t.isOfWitness(15, -half + 4);
            t.isFromTo(6, top + half + 3, top + half + 6, 7);
            t.isOfWitness(6, top + half + 4);
            t.extend(6, 6, n);
            t.isFromTo(6, -half + 3, -half + 6, 7);
            t.isOfWitness(6, -half + 4);
        });
    }

    private static void swap(Sentences doc) {
        doc.sentence("TO SWAP n bits: the value is cut", t -> {
            t.constant(1, 0xA1A2A3A4A5A6A7A8L);
            t.swap(2, 1, 16);
            t.isJust(2, 0xA8A7L);
            t.swap(2, 1, 32);
            t.isJust(2, 0xA8A7A6A5L);
            t.swap(2, 1, 64);
            t.isJust(2, 0xA8A7A6A5A4A3A2A1L);
            t.any(1, 0x0102030405060708L);
            t.swap(2, 1, 16);
            t.isFromTo(2, 0, 0xFFFF, 0xFFFF);
            t.isOfWitness(2, 0x0807);
            t.swap(2, 1, 32);
            t.isFromTo(2, 0, 0xFFFFFFFFL, 0xFFFFFFFFL);
            t.isOfWitness(2, 0x08070605);
            t.swap(2, 1, 64);
            t.isAll(2);
            t.isOfWitness(2, 0x0807060504030201L);
        });
        int[] widths = {16, 32, 64};
        for (int n : widths) {
            doc.sentence("TO SWAP: its lowest n / 8 bytes stand the other way round, known or not - each bit of " + n, t -> {
                for (int bit = 0; bit < 64; bit++) {
                    int to = n - 8 - bit / 8 * 8 + bit % 8;
                    t.pattern(1, 0, 1L << bit, 1L << bit);
                    t.swap(2, 1, n);
                    t.answers("unknown, bit " + bit, t.unknown(2), bit < n ? 1L << to : 0);
                    t.answers("witness, bit " + bit, t.witness(2), bit < n ? 1L << to : 0);
                    t.answers("LOW, bit " + bit, t.least(2, true), 0);
                }
            });
        }
        doc.sentence("TO SWAP: known or not - and no bound is said", t -> {
            t.unsigned(1, 1, 2);
            t.swap(2, 1, 16);
            t.isFromTo(2, 0, 0x300, 0x300);
            t.swap(2, 1, 32);
            t.isFromTo(2, 0, 0x3000000, 0x3000000);
            t.swap(2, 1, 64);
            t.isFromTo(2, 0, 3L << 56, 3L << 56);
        });
        doc.sentence("TO SWAP: the value is cut - a bit that is known by the bounds stays so", t -> {
            t.unsigned(1, 0x10004, 0x10007);
            t.swap(2, 1, 16);
            t.isFromTo(2, 0x400, 0x700, 0x300);
        });
        doc.sentence("swap: it goes to place d - and d may be a", t -> {
            t.pattern(6, 0x1234, 0xF1, 0x1234);
            t.any(9, 1);
            t.swap(15, 6, 16);
            t.isFromTo(15, 0x0412, 0xF512, 0xF100);
            t.isOfWitness(15, 0x3412);
            t.isFromTo(6, 0x1204, 0x12F5, 0xF1);
            t.swap(6, 6, 16);
            t.isFromTo(6, 0x0412, 0xF512, 0xF100);
            t.isOfWitness(6, 0x3412);
        });
    }

    private static void join(Sentences doc) {
        doc.sentence("TO JOIN X and Y: bits known in both, and the same", t -> {
            for (int x = 0; x < 3; x++) {
                for (int y = 0; y < 3; y++) {
                    t.bits(1, x == 1 ? 4 : 0, x == 2 ? 4 : 0);
                    t.bits(2, y == 1 ? 4 : 0, y == 2 ? 4 : 0);
                    t.join(3, 1, 2, true);
                    boolean same = x == y && x != 2;
                    t.answers("unknown of " + x + " and " + y, t.unknown(3), same ? 0 : 4);
                    t.answers("has 4, of " + x + " and " + y, t.has(3, 4), !same || x == 1);
                    t.answers("has 0, of " + x + " and " + y, t.has(3, 0), !same || x == 0);
                }
            }
            t.bits(1, 5, 8);
            t.bits(2, 7, 16);
            t.join(3, 1, 2, true);
            t.isFromTo(3, 5, 23, 26);
        });
        doc.sentence("TO JOIN: the less of both LOW, the greater of both HIGH", t -> {
            t.unsigned(1, 5, MIN + 9);
            t.unsigned(2, 6, MIN + 8);
            t.join(3, 1, 2, true);
            t.is(3, 5, MIN + 9, MIN, MAX, ALL);
            t.join(3, 2, 1, true);
            t.is(3, 5, MIN + 9, MIN, MAX, ALL);
            t.unsigned(2, 4, MIN + 10);
            t.join(3, 1, 2, true);
            t.is(3, 4, MIN + 10, MIN, MAX, ALL);
            t.join(3, 2, 1, true);
            t.is(3, 4, MIN + 10, MIN, MAX, ALL);
        });
        doc.sentence("TO JOIN: the less of both LEAST, the greater of both GREATEST", t -> {
            t.longs(1, -5, 9);
            t.longs(2, -4, 8);
            t.join(3, 1, 2, true);
            t.is(3, 0, ALL, -5, 9, ALL);
            t.join(3, 2, 1, true);
            t.is(3, 0, ALL, -5, 9, ALL);
            t.longs(2, -6, 10);
            t.join(3, 1, 2, true);
            t.is(3, 0, ALL, -6, 10, ALL);
            t.join(3, 2, 1, true);
            t.is(3, 0, ALL, -6, 10, ALL);
        });
        doc.sentence("TO JOIN - numbers on both sides of 2^63", t -> {
            t.constant(1, MAX);
            t.constant(2, MIN);
            t.join(3, 1, 2, true);
            t.is(3, MAX, MIN, MIN, MAX, ALL);
            t.lacks(3, 0, -1);
            t.constant(1, 0);
            t.constant(2, -1);
            t.join(3, 1, 2, true);
            t.is(3, 0, -1, -1, 0, ALL);
            t.lacks(3, 1, -2, MIN, MAX);
        });
        doc.sentence("join: and the witness of a, or of b", t -> {
            t.between(1, true, 4, 6, 5);
            t.between(2, true, 3, 7, 6);
            t.join(3, 1, 2, true);
            t.isOfWitness(3, 5);
            t.isFromTo(3, 3, 7, 7);
            t.join(3, 1, 2, false);
            t.isOfWitness(3, 6);
            t.isFromTo(3, 3, 7, 7);
            t.isFromTo(1, 4, 6, 3);
            t.isFromTo(2, 3, 7, 7);
        });
        doc.sentence("join: Place d gets what places a and b have - d may be a or b, and a may be b", t -> {
            t.between(14, true, 4, 6, 5);
            t.between(15, true, 8, 9, 9);
            t.join(0, 14, 14, false);
            t.isFromTo(0, 4, 6, 3);
            t.isOfWitness(0, 5);
            t.join(14, 14, 15, false);
            t.isFromTo(14, 4, 9, 15);
            t.isOfWitness(14, 9);
            t.isFromTo(15, 8, 9, 1);
            t.join(15, 0, 15, true);
            t.isFromTo(15, 4, 9, 15);
            t.isOfWitness(15, 5);
        });
    }

    private static void widen(Sentences doc) {
        String words = "TO WIDEN X by Y: a bound that is Y's alone, Y going beyond X there, is as where nothing is said";
        doc.sentence(words + " - LOW and HIGH", t -> {
            t.unsigned(1, 5, -5);
            t.unsigned(2, 4, -5);
            t.widen(3, 1, 2);
            t.is(3, 0, -5, MIN, MAX, ALL);
            t.unsigned(2, 5, -4);
            t.widen(3, 1, 2);
            t.is(3, 5, -1, MIN, MAX, ALL);
            t.unsigned(2, 4, -4);
            t.widen(3, 1, 2);
            t.isAll(3);
        });
        doc.sentence(words + " - LOW and HIGH, Y not going beyond X", t -> {
            t.unsigned(1, 5, -5);
            t.unsigned(2, 5, -5);
            t.widen(3, 1, 2);
            t.is(3, 5, -5, MIN, MAX, ALL);
            t.unsigned(2, 6, -6);
            t.widen(3, 1, 2);
            t.is(3, 5, -5, MIN, MAX, ALL);
        });
        doc.sentence(words + " - LEAST and GREATEST", t -> {
            t.longs(1, -5, 9);
            t.longs(2, -6, 9);
            t.widen(3, 1, 2);
            t.is(3, 0, ALL, MIN, 9, ALL);
            t.longs(2, -5, 10);
            t.widen(3, 1, 2);
            t.is(3, 0, ALL, -5, MAX, ALL);
            t.longs(2, -6, 10);
            t.widen(3, 1, 2);
            t.isAll(3);
        });
        doc.sentence(words + " - LEAST and GREATEST, Y not going beyond X", t -> {
            t.longs(1, -5, 9);
            t.longs(2, -5, 9);
            t.widen(3, 1, 2);
            t.is(3, 0, ALL, -5, 9, ALL);
            t.longs(2, -4, 8);
            t.widen(3, 1, 2);
            t.is(3, 0, ALL, -5, 9, ALL);
        });
        doc.sentence("TO WIDEN X by Y: likewise - bits known in both, and the same, hold the bounds", t -> {
            t.unsigned(1, 4, 6);
            t.unsigned(2, 4, 7);
            t.widen(3, 1, 2);
            t.isFromTo(3, 4, 7, 3);
            t.unsigned(2, 4, 9);
            t.widen(3, 1, 2);
            t.isFromTo(3, 4, 15, 15);
            t.unsigned(2, 3, 6);
            t.widen(3, 1, 2);
            t.isFromTo(3, 0, 6, 7);
            t.constant(1, 4);
            t.constant(2, 6);
            t.widen(3, 1, 2);
            t.isFromTo(3, 4, 6, 2);
        });
        doc.sentence("TO WIDEN X by Y - just 0 and just -1 share one bound alone", t -> {
            t.constant(1, 0);
            t.constant(2, -1);
            t.widen(3, 1, 2);
            t.is(3, 0, ALL, MIN, 0, ALL);
            t.widen(3, 2, 1);
            t.is(3, 0, ALL, -1, MAX, ALL);
        });
        doc.sentence("widen: what place a has, widened by what place b has, and the witness of b", t -> {
            t.between(1, true, 4, 6, 5);
            t.between(2, true, 5, 6, 6);
            t.widen(3, 1, 2);
            t.isFromTo(3, 4, 6, 3);
            t.isOfWitness(3, 6);
            t.widen(3, 2, 1);
            t.isFromTo(3, 4, 6, 3);
            t.isOfWitness(3, 5);
            t.isFromTo(1, 4, 6, 3);
            t.isFromTo(2, 5, 6, 3);
        });
        doc.sentence("widen: Place d gets it - d may be a or b, and a may be b", t -> {
            t.between(14, true, 5, 6, 5);
            t.between(15, true, 5, 9, 9);
            t.widen(0, 14, 14);
            t.isFromTo(0, 5, 6, 3);
            t.isOfWitness(0, 5);
            t.widen(14, 14, 15);
            t.isFromTo(14, 5, 15, 15);
            t.isOfWitness(14, 9);
            t.isFromTo(15, 5, 9, 15);
            t.widen(15, 0, 15);
            t.isFromTo(15, 5, 15, 15);
            t.isOfWitness(15, 9);
            t.isFromTo(0, 5, 6, 3);
        });
    }

    public static void main(String[] args) {
        Sentences doc = new Sentences();
        for (int n = 8; n <= 32; n *= 2) {
            cut(doc, n);
            extend(doc, n);
        }
        cutTo64(doc);
        swap(doc);
        join(doc);
        widen(doc);
        doc.end();
    }
}

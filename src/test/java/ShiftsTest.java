/** The sentences of the operations 8 to 10, of 64 bits, at their edges. Place 1 is X, 2 is Y, 3 what is made. */
public final class ShiftsTest {
    private static final long MIN = Trial.MIN;
    private static final long MAX = Trial.MAX;
    private static final long ALL = Trial.ALL;
    private static final int LEFT = 8;
    private static final int RIGHT = 9;
    private static final int SIGNED_RIGHT = 10;

    private static void sixBits(Sentences doc) {
        long[][] shifts = {{0, 0}, {1, 1}, {5, 5}, {62, 62}, {63, 63}, {64, 0}, {65, 1}, {127, 63}, {128, 0}, {-1, 63},
            {-64, 0}, {-63, 1}, {MIN, 0}, {MAX, 63}, {1L << 32, 0}, {32, 32}, {31, 31}, {33, 33}};
        for (long[] shift : shifts) {
            int s = (int) shift[1];
            doc.sentence("LEFT by the lowest six bits of Y's number - " + shift[0] + " is " + s, t -> {
                t.constant(1, -5);
                t.constant(2, shift[0]);
                t.make(LEFT, 64);
                t.isJust(3, -5L << s);
            });
            doc.sentence("RIGHT, by the same, bits 0 coming from above - " + shift[0] + " is " + s, t -> {
                t.constant(1, -5);
                t.constant(2, shift[0]);
                t.make(RIGHT, 64);
                t.isJust(3, s == 0 ? -5 : (1L << 64 - s) - 1 - (4L >> s));
            });
            doc.sentence("SIGNED RIGHT, by the same, bit 63 coming from above - " + shift[0] + " is " + s, t -> {
                t.constant(1, MIN + 5);
                t.constant(2, shift[0]);
                t.make(SIGNED_RIGHT, 64);
                t.isJust(3, -(1L << 63 - s) + (5L >> s));
                t.constant(1, MAX - 5);
                t.make(SIGNED_RIGHT, 64);
                t.isJust(3, (1L << 63 - s) - 1 - (5L >> s));
            });
        }
    }

    private static void leftSingle(Sentences doc) {
        doc.sentence("LEFT. If Y is single, by s: bits go up by s, s bits 0 coming from below", t -> {
            t.bits(1, 9, 4);
            t.constant(2, 2);
            t.make(LEFT, 64);
            t.isFromTo(3, 36, 52, 16);
            t.lacks(3, 37, 38, 44);
            // Bit 0 is known and goes to bit 63; the others go out.
            t.bits(1, 1, ~1L);
            t.constant(2, 63);
            t.make(LEFT, 64);
            t.isJust(3, MIN);
            t.any(1, 4);
            t.make(LEFT, 64);
            t.is(3, 0, MIN, MIN, 0, MIN);
        });
        String low = "LEFT. LOW and HIGH go up, if HIGH is below 2^(64 - s)";
        doc.sentence(low + " - by 1", t -> {
            t.unsigned(1, 5, (1L << 60) - 1);
            t.constant(2, 4);
            t.make(LEFT, 64);
            t.is(3, 80, -16, MIN, MAX - 15, -16);
        });
        doc.sentence(low + " - HIGH is 2^(64 - s)", t -> {
            t.unsigned(1, 5, 1L << 60);
            t.constant(2, 4);
            t.make(LEFT, 64);
            t.is(3, 0, -16, MIN, MAX - 15, -16);
        });
        doc.sentence(low + " - s is 0", t -> {
            t.unsigned(1, 5, -1);
            t.constant(2, 64);
            t.make(LEFT, 64);
            t.is(3, 5, -1, MIN, MAX, ALL);
        });
        doc.sentence(low + " - s is 1", t -> {
            t.unsigned(1, 5, MAX);
            t.constant(2, 1);
            t.make(LEFT, 64);
            t.is(3, 10, -2, MIN, MAX - 1, -2);
            t.unsigned(1, 5, MIN);
            t.make(LEFT, 64);
            t.is(3, 0, -2, MIN, MAX - 1, -2);
        });
        doc.sentence(low + " - s is 62", t -> {
            t.unsigned(1, 1, 3);
            t.constant(2, 62);
            t.make(LEFT, 64);
            t.is(3, 1L << 62, 3L << 62, MIN, 1L << 62, 3L << 62);
            t.unsigned(1, 1, 4);
            t.make(LEFT, 64);
            t.is(3, 0, 3L << 62, MIN, 1L << 62, 3L << 62);
        });
    }

    private static void leftLongs(Sentences doc) {
        String least = "LEFT. LEAST and GREATEST, if both stay longs";
        doc.sentence(least + " - LEAST goes to -2^63", t -> {
            t.longs(1, -(1L << 59), 5);
            t.constant(2, 4);
            t.make(LEFT, 64);
            t.is(3, 0, -16, MIN, 80, -16);
        });
        doc.sentence(least + " - LEAST goes beyond -2^63", t -> {
            t.longs(1, -(1L << 59) - 1, 5);
            t.constant(2, 4);
            t.make(LEFT, 64);
            t.is(3, 0, -16, MIN, MAX - 15, -16);
        });
        doc.sentence(least + " - GREATEST stays below 2^63", t -> {
            t.longs(1, -5, (1L << 59) - 1);
            t.constant(2, 4);
            t.make(LEFT, 64);
            t.is(3, 0, -16, -80, MAX - 15, -16);
        });
        doc.sentence(least + " - GREATEST goes to 2^63", t -> {
            t.longs(1, -5, 1L << 59);
            t.constant(2, 4);
            t.make(LEFT, 64);
            t.is(3, 0, -16, MIN, MAX - 15, -16);
        });
        doc.sentence(least + " - s is 0", t -> {
            t.longs(1, -5, 7);
            t.constant(2, 0);
            t.make(LEFT, 64);
            t.is(3, 0, ALL, -5, 7, ALL);
            t.longs(1, MIN, 7);
            t.make(LEFT, 64);
            t.is(3, 0, ALL, MIN, 7, ALL);
        });
        doc.sentence(least + " - s is 63", t -> {
            t.longs(1, -1, 0);
            t.constant(2, 63);
            t.make(LEFT, 64);
            t.is(3, 0, MIN, MIN, 0, MIN);
        });
    }

    private static void leftOpen(Sentences doc) {
        String words = "LEFT. Else with t = LOW' if HIGH' is at most 63, else 0: the lowest r + t bits (64 at most) are 0";
        doc.sentence(words + " - HIGH' is 63", t -> {
            t.bits(1, 4, ~7L);
            t.unsigned(2, 3, 63);
            t.make(LEFT, 64);
            t.is(3, 0, -32, MIN, MAX - 31, -32);
        });
        doc.sentence(words + " - HIGH' is 64", t -> {
            t.bits(1, 4, ~7L);
            t.unsigned(2, 3, 64);
            t.make(LEFT, 64);
            t.is(3, 0, -4, MIN, MAX - 3, -4);
        });
        doc.sentence(words + " - HIGH' is 2^64 - 1, though LOW' is 3", t -> {
            t.bits(1, 4, ~7L);
            t.unsigned(2, 3, -1);
            t.make(LEFT, 64);
            t.is(3, 0, -4, MIN, MAX - 3, -4);
        });
        doc.sentence(words + " - HIGH' is 2^63 + 2, though GREATEST' is 5", t -> {
            t.bits(1, 4, ~7L);
            // 3 .. 5 and 2^63 .. 2^63 + 2: GREATEST' is at most 63, HIGH' isn't.
            t.between(2, true, 3, MIN + 2, 4);
            t.between(4, false, MIN, 5, 4);
            t.branch(0, 2, 4);
            t.make(LEFT, 64);
            t.is(3, 0, -4, MIN, MAX - 3, -4);
        });
        doc.sentence(words + " - the lowest six bits of Y are known, but Y is not single", t -> {
            t.bits(1, 4, ~7L);
            t.bits(2, 3, 64);
            t.make(LEFT, 64);
            t.is(3, 0, -4, MIN, MAX - 3, -4);
        });
        doc.sentence(words + " - LOW' is 0", t -> {
            t.bits(1, 4, ~7L);
            t.unsigned(2, 0, 1);
            t.make(LEFT, 64);
            t.is(3, 0, -4, MIN, MAX - 3, -4);
        });
        doc.sentence(words + " - r is 0, and so is t", t -> {
            t.unsigned(1, 3, 5);
            t.unsigned(2, 0, 1);
            t.make(LEFT, 64);
            t.isAll(3);
        });
        doc.sentence(words + " - r + t is 63", t -> {
            t.bits(1, 4, ~7L);
            t.unsigned(2, 61, 63);
            t.make(LEFT, 64);
            t.is(3, 0, MIN, MIN, 0, MIN);
        });
        doc.sentence(words + " - r + t is 64", t -> {
            t.bits(1, 4, ~7L);
            t.unsigned(2, 62, 63);
            t.make(LEFT, 64);
            t.isJust(3, 0);
        });
        doc.sentence(words + " - r + t is 65", t -> {
            t.bits(1, 0, ~7L);
            t.unsigned(2, 62, 63);
            t.make(LEFT, 64);
            t.isJust(3, 0);
        });
        doc.sentence(words + " - r is 64", t -> {
            t.constant(1, 0);
            t.unsigned(2, 0, 1);
            t.make(LEFT, 64);
            t.isJust(3, 0);
            t.unsigned(2, 62, 63);
            t.make(LEFT, 64);
            t.isJust(3, 0);
            t.any(2, 7);
            t.make(LEFT, 64);
            t.isJust(3, 0);
        });
        doc.sentence(words + " - r counts the lowest bits known to be 0 alone", t -> {
            // Bit 0 is open, bit 1 is 0.
            t.bits(1, 4, 1);
            t.unsigned(2, 1, 2);
            t.make(LEFT, 64);
            t.is(3, 0, -2, MIN, MAX - 1, -2);
        });
    }

    private static void right(Sentences doc) {
        doc.sentence("RIGHT. If Y is single: bits go down", t -> {
            t.bits(1, 36, 16);
            t.constant(2, 2);
            t.make(RIGHT, 64);
            t.isFromTo(3, 9, 13, 4);
            t.lacks(3, 10, 11, 12);
            t.bits(1, 4, MIN | 3);
            t.make(RIGHT, 64);
            t.isFromTo(3, 1, (1L << 61) + 1, 1L << 61);
        });
        doc.sentence("RIGHT. If Y is single: LOW and HIGH go down", t -> {
            t.unsigned(1, 7, 100);
            t.constant(2, 3);
            t.make(RIGHT, 64);
            t.isFromTo(3, 0, 12, 15);
            t.unsigned(1, 8, 103);
            t.make(RIGHT, 64);
            t.isFromTo(3, 1, 12, 15);
            t.longs(1, -16, -9);
            t.constant(2, 60);
            t.make(RIGHT, 64);
            t.isJust(3, 15);
            t.unsigned(1, MAX, MIN);
            t.constant(2, 1);
            t.make(RIGHT, 64);
            t.isFromTo(3, (1L << 62) - 1, 1L << 62, MAX);
        });
        doc.sentence("RIGHT. If Y is single - by 0, LEAST and GREATEST are not said", t -> {
            t.longs(1, -3, 5);
            t.constant(2, 0);
            t.make(RIGHT, 64);
            t.isAll(3);
            t.unsigned(1, 5, MIN + 3);
            t.make(RIGHT, 64);
            t.is(3, 5, MIN + 3, MIN, MAX, ALL);
        });
        doc.sentence("RIGHT. If Y is single - by 63 it is 0 or 1", t -> {
            t.any(1, MIN);
            t.constant(2, 63);
            t.make(RIGHT, 64);
            t.isFromTo(3, 0, 1, 1);
            t.unsigned(1, 0, MAX);
            t.make(RIGHT, 64);
            t.isJust(3, 0);
            t.unsigned(1, MIN, -1);
            t.make(RIGHT, 64);
            t.isJust(3, 1);
        });
    }

    private static void rightOpen(Sentences doc) {
        String words = "RIGHT. Else with t and u being LOW' and HIGH' if HIGH' is at most 63, else 0 and 63:"
                + " LOW >>> u and HIGH >>> t";
        doc.sentence(words + " - 1 to 3", t -> {
            t.unsigned(1, 40, 100);
            t.unsigned(2, 1, 3);
            t.make(RIGHT, 64);
            t.isFromTo(3, 5, 50, 63);
        });
        doc.sentence(words + " - HIGH' is 63", t -> {
            t.unsigned(1, -8, -5);
            t.unsigned(2, 1, 63);
            t.make(RIGHT, 64);
            t.isFromTo(3, 1, MAX - 2, MAX);
            t.unsigned(2, 62, 63);
            t.make(RIGHT, 64);
            t.isFromTo(3, 1, 3, 3);
        });
        doc.sentence(words + " - HIGH' is 64", t -> {
            t.unsigned(1, -8, -5);
            t.unsigned(2, 62, 64);
            t.make(RIGHT, 64);
            t.is(3, 1, -5, MIN, MAX, ALL);
            t.unsigned(1, 40, 100);
            t.make(RIGHT, 64);
            t.isFromTo(3, 0, 100, 127);
        });
        doc.sentence(words + " - HIGH' is 2^64 - 1", t -> {
            t.unsigned(1, -8, -5);
            t.any(2, 2);
            t.make(RIGHT, 64);
            t.is(3, 1, -5, MIN, MAX, ALL);
            t.unsigned(2, 62, -1);
            t.make(RIGHT, 64);
            t.is(3, 1, -5, MIN, MAX, ALL);
        });
        doc.sentence(words + " - HIGH' is 2^63 + 2, though GREATEST' is 5", t -> {
            t.unsigned(1, 40, 100);
            // 3 .. 5 and 2^63 .. 2^63 + 2: GREATEST' is at most 63, HIGH' isn't.
            t.between(2, true, 3, MIN + 2, 4);
            t.between(4, false, MIN, 5, 4);
            t.branch(0, 2, 4);
            t.make(RIGHT, 64);
            t.isFromTo(3, 0, 100, 127);
        });
        doc.sentence(words + " - LOW and HIGH about 2^63", t -> {
            t.unsigned(1, 40, MIN + 9);
            t.unsigned(2, 1, 3);
            t.make(RIGHT, 64);
            t.isFromTo(3, 5, (1L << 62) + 4, MAX);
        });
        doc.sentence(words + " - LOW' is 0", t -> {
            t.unsigned(1, 40, 100);
            t.unsigned(2, 0, 1);
            t.make(RIGHT, 64);
            t.isFromTo(3, 20, 100, 127);
        });
        doc.sentence(words + " - and no bit is said", t -> {
            t.bits(1, 32, 16);
            t.bits(2, 0, 1);
            t.make(RIGHT, 64);
            t.isFromTo(3, 16, 48, 63);
        });
    }

    private static void signedRight(Sentences doc) {
        doc.sentence("SIGNED RIGHT, bit 63 coming from above (known or not)", t -> {
            t.bits(1, 0, MIN | 8);
            t.constant(2, 2);
            t.make(SIGNED_RIGHT, 64);
            t.is(3, 0, (MIN >> 2) + 2, MIN >> 2, 2, (MIN >> 2) | 2);
            t.bits(1, MIN, 8);
            t.make(SIGNED_RIGHT, 64);
            t.isFromTo(3, MIN >> 2, (MIN >> 2) + 2, 2);
            t.bits(1, 0, 8);
            t.make(SIGNED_RIGHT, 64);
            t.isFromTo(3, 0, 2, 2);
        });
        doc.sentence("SIGNED RIGHT. If Y is single: LEAST and GREATEST go down", t -> {
            t.longs(1, -41, 100);
            t.constant(2, 3);
            t.make(SIGNED_RIGHT, 64);
            t.is(3, 0, ALL, -6, 12, ALL);
            t.longs(1, -16, -9);
            t.constant(2, 2);
            t.make(SIGNED_RIGHT, 64);
            t.isFromTo(3, -4, -3, 1);
            t.longs(1, -13, -7);
            t.make(SIGNED_RIGHT, 64);
            t.isFromTo(3, -4, -2, 3);
            t.longs(1, -17, -4);
            t.make(SIGNED_RIGHT, 64);
            t.isFromTo(3, -5, -1, 7);
            t.longs(1, -16, -7);
            t.make(SIGNED_RIGHT, 64);
            t.isFromTo(3, -4, -2, 3);
            t.any(1, 3);
            t.constant(2, 63);
            t.make(SIGNED_RIGHT, 64);
            t.is(3, 0, -1, -1, 0, ALL);
        });
        doc.sentence("SIGNED RIGHT. If Y is single - by 0, LOW and HIGH are not said", t -> {
            t.unsigned(1, 5, MIN + 3);
            t.constant(2, 0);
            t.make(SIGNED_RIGHT, 64);
            t.isAll(3);
            t.longs(1, -3, 5);
            t.make(SIGNED_RIGHT, 64);
            t.is(3, 0, ALL, -3, 5, ALL);
        });
    }

    private static void signedRightOpen(Sentences doc) {
        String words = "SIGNED RIGHT. Else the less of LEAST >> t and LEAST >> u,"
                + " and the greater of GREATEST >> t and GREATEST >> u";
        doc.sentence(words + " - below 0 and above", t -> {
            t.longs(1, -40, 100);
            t.unsigned(2, 1, 3);
            t.make(SIGNED_RIGHT, 64);
            t.is(3, 0, ALL, -20, 50, ALL);
        });
        doc.sentence(words + " - both below 0", t -> {
            t.longs(1, -40, -20);
            t.unsigned(2, 1, 3);
            t.make(SIGNED_RIGHT, 64);
            t.isFromTo(3, -20, -3, 31);
        });
        doc.sentence(words + " - both above 0", t -> {
            t.longs(1, 40, 100);
            t.unsigned(2, 1, 3);
            t.make(SIGNED_RIGHT, 64);
            t.isFromTo(3, 5, 50, 63);
        });
        doc.sentence(words + " - HIGH' is 63", t -> {
            t.longs(1, -40, -20);
            t.unsigned(2, 1, 63);
            t.make(SIGNED_RIGHT, 64);
            t.isFromTo(3, -20, -1, 31);
            t.longs(1, 40, 100);
            t.make(SIGNED_RIGHT, 64);
            t.isFromTo(3, 0, 50, 63);
        });
        doc.sentence(words + " - HIGH' is 64", t -> {
            t.longs(1, -40, -20);
            t.unsigned(2, 1, 64);
            t.make(SIGNED_RIGHT, 64);
            t.isFromTo(3, -40, -1, 63);
            t.longs(1, 1L << 62, MAX);
            t.make(SIGNED_RIGHT, 64);
            t.isFromTo(3, 0, MAX, MAX);
            t.any(2, 3);
            t.longs(1, 40, 100);
            t.make(SIGNED_RIGHT, 64);
            t.isFromTo(3, 0, 100, 127);
        });
        doc.sentence(words + " - HIGH' is 2^63 + 2, though GREATEST' is 5", t -> {
            t.longs(1, -40, -20);
            // 3 .. 5 and 2^63 .. 2^63 + 2: GREATEST' is at most 63, HIGH' isn't.
            t.between(2, true, 3, MIN + 2, 4);
            t.between(4, false, MIN, 5, 4);
            t.branch(0, 2, 4);
            t.make(SIGNED_RIGHT, 64);
            t.isFromTo(3, -40, -1, 63);
        });
        doc.sentence(words + " - u is 63, which leaves the sign alone", t -> {
            t.longs(1, 1L << 62, MAX);
            t.unsigned(2, 62, 63);
            t.make(SIGNED_RIGHT, 64);
            t.isFromTo(3, 0, 1, 1);
            t.longs(1, MIN, MIN + 9);
            t.make(SIGNED_RIGHT, 64);
            t.isFromTo(3, -2, -1, 1);
        });
        doc.sentence(words + " - and no bit is said", t -> {
            t.bits(1, 32, 16);
            t.bits(2, 0, 1);
            t.make(SIGNED_RIGHT, 64);
            t.isFromTo(3, 16, 48, 63);
        });
    }

    public static void main(String[] args) {
        Sentences doc = new Sentences();
        sixBits(doc);
        leftSingle(doc);
        leftLongs(doc);
        leftOpen(doc);
        right(doc);
        rightOpen(doc);
        signedRight(doc);
        signedRightOpen(doc);
        doc.end();
    }
}

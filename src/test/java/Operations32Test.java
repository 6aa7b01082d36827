/** The sentences of the operations of 32 bits, at their edges. Place 1 is X, 2 is Y, 3 what is made. */
public final class Operations32Test {
    private static final long MIN = Trial.MIN;
    private static final long MAX = Trial.MAX;
    private static final long TOP = 1L << 32;
    private static final long HALF = 1L << 31;
    private static final long MOST = TOP - 1;
    private static final int ADD = 0;
    private static final int SUBTRACT = 1;
    private static final int MULTIPLY = 2;
    private static final int DIVIDE = 3;
    private static final int REST = 4;
    private static final int AND = 5;
    private static final int OR = 6;
    private static final int XOR = 7;
    private static final int LEFT = 8;
    private static final int RIGHT = 9;
    private static final int SIGNED_RIGHT = 10;
    private static final int MOVE = 11;

    private static void isFull(Trial t) {
        t.isFromTo(3, 0, MOST, MOST);
    }

    private static void just(Sentences doc, String words, int operation, long x, long y, long due) {
        doc.sentence(words + " - operation " + operation + " on " + x + " and " + y, t -> {
            t.constant(1, x);
            t.constant(2, y);
            t.make(operation, 32);
            t.isJust(3, due);
            t.isJust(1, x);
            t.isJust(2, y);
        });
    }

    private static void cutFirst(Sentences doc) {
        String words = "OF 32 BITS: X and Y are first CUT to 32 bits";
        long x = 5 * TOP;
        long y = 7 * TOP;
        just(doc, words, ADD, x + 3, y + 4, 7);
        just(doc, words, SUBTRACT, x + 9, y + 4, 5);
        just(doc, words, MULTIPLY, x + 3, y + 4, 12);
        just(doc, words, DIVIDE, x + 10, y + 3, 3);
        just(doc, words, REST, x + 2, y + 3, 2);
        just(doc, words, AND, x + 6, y + 3, 2);
        just(doc, words, OR, x + 6, y + 3, 7);
        just(doc, words, XOR, x + 6, y + 3, 5);
        just(doc, words, LEFT, x + 6, y + 3, 48);
        just(doc, words, RIGHT, x + 6, y + 1, 3);
        just(doc, words, SIGNED_RIGHT, x + 6, y + 1, 3);
        just(doc, words, MOVE, x + 6, y + 3, 3);
        just(doc, words, RIGHT, -1, 4, MOST >> 4);
        just(doc, words, RIGHT, x, 0, 0);
        just(doc, words, ADD, -1, -1, MOST - 1);
        doc.sentence(words + " - a range beyond 2^32 loses its bounds before it is reckoned with", t -> {
            t.unsigned(1, MOST, TOP);
            t.constant(2, 0);
            t.make(ADD, 32);
            isFull(t);
            t.unsigned(1, TOP, TOP + 5);
            t.make(ADD, 32);
            t.isFromTo(3, 0, 5, 7);
            t.unsigned(1, TOP + MOST - 1, TOP + MOST);
            t.make(ADD, 32);
            t.isFromTo(3, MOST - 1, MOST, 1);
        });
        doc.sentence(words + " - Y is cut, too: it is 2^32 - 1 and 2^32", t -> {
            t.constant(1, 20);
            t.unsigned(2, MOST, TOP);
            t.make(DIVIDE, 32);
            t.isFromTo(3, 0, 20, 31);
            t.make(MOVE, 32);
            isFull(t);
        });
        doc.sentence(words + " - Y is 0 once it is cut: DIVIDE and REST by 0", t -> {
            t.unsigned(1, 20, 30);
            t.constant(2, TOP);
            t.make(DIVIDE, 32);
            t.isFromTo(3, 0, 30, 31);
            t.isOfWitness(3, 0);
            t.make(REST, 32);
            t.isFromTo(3, 0, 30, 31);
            t.isOfWitness(3, 20);
        });
        doc.sentence(words + " - Y is single once it is cut", t -> {
            t.bits(1, 1, 2);
            t.bits(2, 3, TOP);
            t.make(LEFT, 32);
            t.isFromTo(3, 8, 24, 16);
            t.make(LEFT, 64);
            t.is(3, 0, -1, MIN, MAX, -1);
        });
        doc.sentence(words + " - Y is single once it is cut, RIGHT", t -> {
            // X is 40 or 44: by 3 both give 5, by 2 or 3 all from 5 to 11 may come.
            t.bits(1, 40, 4);
            t.bits(2, 3, TOP);
            t.make(RIGHT, 32);
            t.isJust(3, 5);
            t.bits(2, 3, TOP | 1);
            t.make(RIGHT, 32);
            t.isFromTo(3, 5, 11, 15);
            t.bits(2, 3, TOP);
            t.make(RIGHT, 64);
            t.isFromTo(3, 0, 44, 63);
        });
        doc.sentence(words + " - Y is single once it is cut, SIGNED RIGHT", t -> {
            // -8 or -4 once X is extended; by 1 it is -4 or -2, by 0 or 1 all from -8 to -2.
            t.bits(1, MOST - 7, 4);
            t.bits(2, 1, ~MOST);
            t.make(SIGNED_RIGHT, 32);
            t.isFromTo(3, MOST - 3, MOST - 1, 2);
            t.bits(2, 1, ~MOST | 1);
            t.make(SIGNED_RIGHT, 32);
            t.isFromTo(3, MOST - 7, MOST - 1, 7);
        });
        doc.sentence(words + " - Y is single once it is cut, and is more than 31", t -> {
            t.unsigned(1, 16, 17);
            t.bits(2, 35, ~MOST);
            t.make(LEFT, 32);
            t.isFromTo(3, 128, 136, 8);
            t.make(RIGHT, 32);
            t.isJust(3, 2);
            t.make(SIGNED_RIGHT, 32);
            t.isJust(3, 2);
        });
    }

    private static void cutBehind(Sentences doc) {
        String words = "OF 32 BITS: what comes of it as told above is cut to 32 bits";
        just(doc, words, ADD, MOST, 1, 0);
        just(doc, words, ADD, MOST, MOST, MOST - 1);
        just(doc, words, ADD, MOST - 1, 1, MOST);
        just(doc, words, SUBTRACT, 0, 1, MOST);
        just(doc, words, SUBTRACT, 0, MOST, 1);
        just(doc, words, MULTIPLY, MOST, MOST, 1);
        just(doc, words, MULTIPLY, 1 << 16, 1 << 16, 0);
        just(doc, words, MULTIPLY, 0x9_00000003L, MOST, MOST - 2);
        just(doc, words, LEFT, HALF + 1, 1, 2);
        just(doc, words, LEFT, MOST, 31, HALF);
        just(doc, words, MOVE, 0, -1, MOST);
        just(doc, words, MOVE, 0, TOP, 0);
        just(doc, words, MOVE, 0, MOST, MOST);
        doc.sentence(words + " - ADD, all sums are 2^32 or more", t -> {
            t.unsigned(1, MOST - 1, MOST);
            t.unsigned(2, 2, 5);
            t.make(ADD, 32);
            t.isFromTo(3, 0, 4, 7);
        });
        doc.sentence(words + " - ADD, one sum is still 2^32 - 1", t -> {
            t.unsigned(1, MOST - 1, MOST);
            t.unsigned(2, 1, 2);
            t.make(ADD, 32);
            isFull(t);
        });
        doc.sentence(words + " - ADD, no sum is 2^32", t -> {
            t.unsigned(1, 5, MOST - 2);
            t.unsigned(2, 1, 2);
            t.make(ADD, 32);
            t.isFromTo(3, 6, MOST, MOST);
        });
        doc.sentence(words + " - SUBTRACT, all differences are below 0", t -> {
            t.unsigned(1, 0, 1);
            t.unsigned(2, 2, 3);
            t.make(SUBTRACT, 32);
            t.isFromTo(3, MOST - 2, MOST, 3);
        });
        doc.sentence(words + " - SUBTRACT, one difference is 0", t -> {
            t.unsigned(1, 0, 1);
            t.unsigned(2, 1, 3);
            t.make(SUBTRACT, 32);
            isFull(t);
            t.isOfWitness(3, MOST);
        });
        doc.sentence(words + " - MULTIPLY, all products are from 2^32 on, and below 2^33", t -> {
            t.unsigned(1, 1 << 16, (1 << 16) + 1);
            t.unsigned(2, 1 << 16, (1 << 16) + 1);
            t.make(MULTIPLY, 32);
            t.isFromTo(3, 0, 0x20001, 0x3FFFF);
        });
        doc.sentence(words + " - MULTIPLY, one product is below 2^32", t -> {
            t.unsigned(1, (1 << 16) - 1, (1 << 16) + 1);
            t.unsigned(2, 1 << 16, (1 << 16) + 1);
            t.make(MULTIPLY, 32);
            isFull(t);
        });
        doc.sentence(words + " - LEFT, LOW and HIGH go up to 2^32 and more", t -> {
            t.unsigned(1, TOP / 4, TOP / 4 + 3);
            t.constant(2, 2);
            t.make(LEFT, 32);
            t.isFromTo(3, 0, 12, 12);
            t.unsigned(1, TOP / 4 - 1, TOP / 4 + 3);
            t.make(LEFT, 32);
            t.isFromTo(3, 0, MOST - 3, MOST - 3);
        });
        doc.sentence(words + " - the lowest bits that are known stay so", t -> {
            t.bits(1, 6, ~7L);
            t.constant(2, 3);
            t.make(ADD, 32);
            t.isFromTo(3, 1, MOST - 6, MOST - 7);
            t.make(MULTIPLY, 32);
            t.isFromTo(3, 2, MOST - 5, MOST - 7);
        });
        doc.sentence(words + " - MOVE, a range within 32 bits, and one beyond", t -> {
            t.between(2, true, 3, MOST, 7);
            t.make(MOVE, 32);
            t.isFromTo(3, 3, MOST, MOST);
            t.between(2, true, 3, TOP, 7);
            t.make(MOVE, 32);
            isFull(t);
            t.isOfWitness(3, 7);
        });
    }

    private static void extendedFirst(Sentences doc) {
        String words = "OF 32 BITS: for 10 X is EXTENDED from 32";
        just(doc, words, SIGNED_RIGHT, HALF, 31, MOST);
        just(doc, words, SIGNED_RIGHT, HALF - 1, 31, 0);
        just(doc, words, SIGNED_RIGHT, HALF, 0, HALF);
        just(doc, words, SIGNED_RIGHT, TOP + HALF, 4, 0xF8000000L);
        just(doc, words, SIGNED_RIGHT, TOP + HALF - 1, 4, 0x07FFFFFFL);
        just(doc, words, SIGNED_RIGHT, MIN, 4, 0);
        just(doc, words, SIGNED_RIGHT, -1, 4, MOST);
        doc.sentence(words + " - a range from 2^31 on", t -> {
            t.unsigned(1, HALF, HALF + 16);
            t.constant(2, 4);
            t.make(SIGNED_RIGHT, 32);
            t.isFromTo(3, 0xF8000000L, 0xF8000001L, 1);
        });
        doc.sentence(words + " - a range below 2^31", t -> {
            t.unsigned(1, 32, HALF - 1);
            t.constant(2, 4);
            t.make(SIGNED_RIGHT, 32);
            t.isFromTo(3, 2, 0x07FFFFFFL, 0x07FFFFFFL);
        });
        doc.sentence(words + " - a range on both sides", t -> {
            t.unsigned(1, HALF - 1, HALF);
            t.constant(2, 4);
            t.make(SIGNED_RIGHT, 32);
            isFull(t);
        });
        doc.sentence(words + " - bit 31 is open, and comes from above so", t -> {
            t.bits(1, 0, HALF | 8);
            t.constant(2, 2);
            t.make(SIGNED_RIGHT, 32);
            t.isFromTo(3, 0, 0xE0000002L, 0xE0000002L);
        });
        doc.sentence(words + " - but not for 9", t -> {
            t.unsigned(1, HALF, HALF + 16);
            t.constant(2, 4);
            t.make(RIGHT, 32);
            t.isFromTo(3, HALF >> 4, (HALF >> 4) + 1, 1);
        });
    }

    private static void fiveBits(Sentences doc) {
        String words = "OF 32 BITS: for 8, 9, 10 five bits of Y's number count";
        long[][] shifts = {{0, 0}, {1, 1}, {30, 30}, {31, 31}, {32, 0}, {33, 1}, {63, 31}, {64, 0}, {-1, 31}, {TOP, 0},
            {TOP + 31, 31}, {MIN, 0}, {MAX, 31}, {MOST, 31}, {HALF, 0}};
        for (long[] shift : shifts) {
            int s = (int) shift[1];
            just(doc, words, LEFT, 0x80000005L, shift[0], 0x80000005L * (1L << s) & MOST);
            just(doc, words, RIGHT, 0x80000005L, shift[0], 0x80000005L / (1L << s));
            just(doc, words, SIGNED_RIGHT, 0x80000005L, shift[0], Math.floorDiv(0x80000005L - TOP, 1L << s) & MOST);
        }
    }

    private static void farthest(Sentences doc) {
        String words = "OF 32 BITS: 31 stands for 63";
        doc.sentence(words + " - LEFT, HIGH' is 31", t -> {
            t.bits(1, 4, ~7L);
            t.unsigned(2, 3, 31);
            t.make(LEFT, 32);
            t.isFromTo(3, 0, MOST - 31, MOST - 31);
        });
        doc.sentence(words + " - LEFT, HIGH' is 32", t -> {
            t.bits(1, 4, ~7L);
            t.unsigned(2, 3, 32);
            t.make(LEFT, 32);
            t.isFromTo(3, 0, MOST - 3, MOST - 3);
        });
        doc.sentence(words + " - LEFT, r + t is 31, 32, and more", t -> {
            t.bits(1, 4, ~7L);
            t.unsigned(2, 29, 31);
            t.make(LEFT, 32);
            t.isFromTo(3, 0, HALF, HALF);
            t.unsigned(2, 30, 31);
            t.make(LEFT, 32);
            t.isJust(3, 0);
            t.bits(1, 0, ~7L);
            t.make(LEFT, 32);
            t.isJust(3, 0);
        });
        doc.sentence(words + " - RIGHT, HIGH' is 31", t -> {
            t.unsigned(1, HALF, MOST);
            t.unsigned(2, 1, 31);
            t.make(RIGHT, 32);
            t.isFromTo(3, 1, HALF - 1, HALF - 1);
        });
        doc.sentence(words + " - RIGHT, HIGH' is 32: 0 and 31", t -> {
            t.unsigned(1, HALF, MOST);
            t.unsigned(2, 1, 32);
            t.make(RIGHT, 32);
            t.isFromTo(3, 1, MOST, MOST);
            t.any(2, 9);
            t.make(RIGHT, 32);
            t.isFromTo(3, 1, MOST, MOST);
        });
        doc.sentence(words + " - SIGNED RIGHT, HIGH' is 31", t -> {
            t.unsigned(1, HALF, MOST - 15);
            t.unsigned(2, 4, 31);
            t.make(SIGNED_RIGHT, 32);
            t.isFromTo(3, 0xF8000000L, MOST, 0x07FFFFFFL);
        });
        doc.sentence(words + " - SIGNED RIGHT, HIGH' is 32: 0 and 31", t -> {
            t.unsigned(1, HALF, MOST - 15);
            t.unsigned(2, 4, 32);
            t.make(SIGNED_RIGHT, 32);
            t.isFromTo(3, HALF, MOST, HALF - 1);
            t.unsigned(1, HALF / 2, HALF - 1);
            t.make(SIGNED_RIGHT, 32);
            t.isFromTo(3, 0, HALF - 1, HALF - 1);
        });
        doc.sentence(words + " - of 64 bits 32 is still at most 63", t -> {
            t.unsigned(1, HALF, MOST);
            t.unsigned(2, 1, 32);
            t.make(RIGHT, 64);
            t.isFromTo(3, 0, HALF - 1, HALF - 1);
        });
    }

    public static void main(String[] args) {
        Sentences doc = new Sentences();
        cutFirst(doc);
        cutBehind(doc);
        extendedFirst(doc);
        fiveBits(doc);
        farthest(doc);
        doc.end();
    }
}

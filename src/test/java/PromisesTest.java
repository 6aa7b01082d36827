/** Each promise of the document by worked cases; what is refused stands in RefusalsTest. */
public final class PromisesTest {
    private static final long MIN = Long.MIN_VALUE;
    private static final long MAX = Long.MAX_VALUE;
    private static final long ALL = -1L;
    private static final int ADD = 0;
    private static final int SUBTRACT = 1;
    private static final int MULTIPLY = 2;
    private static final int DIVIDE = 3;
    private static final int REST = 4;
    private static final int AND = 5;
    private static final int OR = 6;
    private static final int XOR = 7;
    private static final int LEFT = 8;
    private static final int RIGHT = 9;
    private static final int SIGNED_RIGHT = 10;
    private static final int MOVE = 11;

    private static int wrong = 0;

    private static void check(String what, long got, long want) {
        if (got != want) {
            wrong++;
            System.out.println(what + ": answered " + got + ", due is " + want);
        }
    }

    private static void check(String what, boolean got, boolean want) {
        check(what, got ? 1 : 0, want ? 1 : 0);
    }

    /** What a place has: LOW, HIGH, LEAST, GREATEST, the unknown bits, the witness. */
    private static void has(String what, Sieve s, int place, long... due) {
        check(what + ", LOW", s.least(place, true), due[0]);
        check(what + ", HIGH", s.greatest(place, true), due[1]);
        check(what + ", LEAST", s.least(place, false), due[2]);
        check(what + ", GREATEST", s.greatest(place, false), due[3]);
        check(what + ", unknown", s.unknown(place), due[4]);
        check(what + ", witness", s.witness(place), due[5]);
        check(what + ", the witness is a number of it", s.has(place, s.witness(place)), true);
        check(what + ", strays", s.strays(), 0);
    }

    private static void hasJust(String what, Sieve s, int place, long v) {
        has(what, s, place, v, v, v, v, 0, v);
        check(what + ", has it", s.has(place, v), true);
        check(what + ", has no other", s.has(place, v ^ 1), false);
    }

    private static void newObject() {
        Sieve s = new Sieve();
        for (int p = 0; p < 16; p++) {
            hasJust("1: new place " + p, s, p, 0);
        }
    }

    private static void any() {
        Sieve s = new Sieve();
        s.any(0, 5);
        has("2: any(0, 5)", s, 0, 0, ALL, MIN, MAX, ALL, 5);
        s.any(15, MIN);
        has("2: any(15, MIN)", s, 15, 0, ALL, MIN, MAX, ALL, MIN);
        hasJust("2: another place", s, 1, 0);
    }

    private static void constant() {
        Sieve s = new Sieve();
        long[] numbers = {0, 1, -1, MIN, MAX, 42};
        for (int k = 0; k < numbers.length; k++) {
            s.constant(k, numbers[k]);
            hasJust("3: constant " + numbers[k], s, k, numbers[k]);
        }
        s.any(3, 9);
        s.constant(3, 8);
        hasJust("3: constant over another value", s, 3, 8);
    }

    private static void between() {
        Sieve s = new Sieve();
        s.between(0, true, 3, 12, 7);
        has("4: 3..12", s, 0, 3, 12, 3, 12, 15, 7);
        s.between(0, true, 8, 11, 11);
        has("4: 8..11 knows bit 3", s, 0, 8, 11, 8, 11, 3, 11);
        s.between(0, false, -4, 9, -1);
        has("4: -4..9", s, 0, 0, ALL, -4, 9, ALL, -1);
        s.between(0, false, -4, -3, -4);
        has("4: -4..-3", s, 0, -4, -3, -4, -3, 1, -4);
        s.between(0, true, 5, MIN + 1, MIN);
        has("4: 5..2^63 + 1", s, 0, 5, MIN + 1, MIN, MAX, ALL, MIN);
        s.between(0, true, MAX, MIN, MAX);
        has("4: 2^63 - 1 and 2^63", s, 0, MAX, MIN, MIN, MAX, ALL, MAX);
        s.between(0, false, MIN, MAX, 3);
        has("4: all longs", s, 0, 0, ALL, MIN, MAX, ALL, 3);
        s.between(0, true, ALL, ALL, ALL);
        hasJust("4: one number", s, 0, ALL);
    }

    private static void pattern() {
        Sieve s = new Sieve();
        s.pattern(0, 8, 5, 12);
        has("5: 8 and 5 open", s, 0, 8, 13, 8, 13, 5, 12);
        check("5: has 9", s.has(0, 9), true);
        check("5: has not 10", s.has(0, 10), false);
        s.pattern(0, 15, 5, 10);
        has("5: bits of v do not matter where unknown has 1", s, 0, 10, 15, 10, 15, 5, 10);
        s.pattern(0, 1, MIN | 6, MIN | 3);
        has("5: bit 63 open", s, 0, 1, MIN | 7, MIN | 1, 7, MIN | 6, MIN | 3);
        s.pattern(0, 77, 0, 77);
        hasJust("5: nothing open", s, 0, 77);
        s.pattern(0, 77, ALL, 3);
        has("5: all open", s, 0, 0, ALL, MIN, MAX, ALL, 3);
    }

    private static void operateAdd() {
        Sieve s = new Sieve();
        s.pattern(1, 4, 1, 5);
        s.pattern(2, 2, 8, 10);
        s.operate(ADD, 64, 3, 1, 2);
        has("6: ADD by bits", s, 3, 6, 15, 6, 15, 9, 15);
        s.pattern(1, 1, 2, 3);
        s.pattern(2, 1, 0, 1);
        s.operate(ADD, 64, 3, 1, 2);
        has("6: ADD with a carry", s, 3, 2, 4, 2, 4, 6, 4);
        s.between(1, true, -3, -1, -2);
        s.between(2, true, 3, 4, 3);
        s.operate(ADD, 64, 3, 1, 2);
        has("6: ADD, both beyond 2^64", s, 3, 0, 3, 0, 3, 3, 1);
        s.between(2, true, 2, 4, 3);
        s.operate(ADD, 64, 3, 1, 2);
        has("6: ADD, one beyond 2^64: bounds as longs stay", s, 3, 0, ALL, -1, 3, ALL, 1);
        s.between(1, false, MAX - 1, MAX, MAX);
        s.between(2, false, 1, 2, 2);
        s.operate(ADD, 64, 3, 1, 2);
        has("6: ADD, one is no long", s, 3, MAX, MIN + 1, MIN, MAX, ALL, MIN + 1);
        s.between(1, true, 0xFFFFFFFEL, 0x1_00000001L, 0xFFFFFFFFL);
        s.constant(2, 0x7_00000001L);
        s.operate(ADD, 32, 3, 1, 2);
        has("6: ADD of 32 bits", s, 3, 0, 0xFFFFFFFFL, 0, 0xFFFFFFFFL, 0xFFFFFFFFL, 0);
        s.between(1, true, 0xFFFFFFFEL, 0xFFFFFFFFL, 0xFFFFFFFFL);
        s.between(2, true, 2, 5, 3);
        s.operate(ADD, 32, 3, 1, 2);
        has("6: ADD of 32 bits, all beyond 2^32", s, 3, 0, 4, 0, 4, 7, 2);
    }

    private static void operateSubtract() {
        Sieve s = new Sieve();
        s.between(1, true, 10, 12, 11);
        s.between(2, true, 3, 4, 3);
        s.operate(SUBTRACT, 64, 3, 1, 2);
        has("6: SUBTRACT", s, 3, 6, 9, 6, 9, 15, 8);
        s.operate(SUBTRACT, 64, 3, 2, 1);
        has("6: SUBTRACT, both below 0", s, 3, -9, -6, -9, -6, 15, -8);
        s.between(2, true, 11, 13, 13);
        s.operate(SUBTRACT, 64, 3, 1, 2);
        has("6: SUBTRACT, one below 0", s, 3, 0, ALL, -3, 1, ALL, -2);
        s.pattern(1, 0, 6, 4);
        s.constant(2, 1);
        s.operate(SUBTRACT, 64, 3, 1, 2);
        has("6: SUBTRACT, bits", s, 3, 1, ALL, -1, 5, -2, 3);
        s.between(1, false, MIN, MIN + 2, MIN + 1);
        s.operate(SUBTRACT, 64, 3, 1, 2);
        has("6: SUBTRACT, one is no long", s, 3, MAX, MIN + 1, MIN, MAX, ALL, MIN);
        s.constant(1, 1);
        s.constant(2, 2);
        s.operate(SUBTRACT, 32, 3, 1, 2);
        hasJust("6: SUBTRACT of 32 bits", s, 3, 0xFFFFFFFFL);
    }

    private static void operateMultiply() {
        Sieve s = new Sieve();
        s.between(1, true, 3, 5, 4);
        s.between(2, true, 7, 8, 7);
        s.operate(MULTIPLY, 64, 3, 1, 2);
        has("6: MULTIPLY", s, 3, 21, 40, 21, 40, 63, 28);
        s.between(1, false, -3, 5, -2);
        s.between(2, false, -7, 8, 8);
        s.operate(MULTIPLY, 64, 3, 1, 2);
        has("6: MULTIPLY, four products", s, 3, 0, ALL, -35, 40, ALL, -16);
        // 4 + 16a and 6 + 8b: p = 4, r = 2, q = 3, s = 1: the lowest 5 bits are those of 24.
        s.pattern(1, 4, ~15L, 20);
        s.pattern(2, 6, ~7L, 14);
        s.operate(MULTIPLY, 64, 3, 1, 2);
        has("6: MULTIPLY, lowest bits", s, 3, 24, -8, MIN + 24, MAX - 7, ~31L, 280);
        s.any(1, MAX);
        s.constant(2, 0);
        s.operate(MULTIPLY, 64, 3, 1, 2);
        hasJust("6: MULTIPLY by 0", s, 3, 0);
        s.between(1, true, 1, 1L << 32, 3);
        s.between(2, true, 1, 1L << 32, 5);
        s.operate(MULTIPLY, 64, 3, 1, 2);
        has("6: MULTIPLY, HIGH is too great by 1", s, 3, 0, ALL, MIN, MAX, ALL, 15);
        s.between(2, true, 1, (1L << 32) - 1, 5);
        s.operate(MULTIPLY, 64, 3, 1, 2);
        has("6: MULTIPLY, HIGH below 2^64", s, 3, 1, -(1L << 32), MIN, MAX, ALL, 15);
        s.between(1, false, MIN, MIN + 1, MIN);
        s.constant(2, -1);
        s.operate(MULTIPLY, 64, 3, 1, 2);
        has("6: MULTIPLY, -2^63 by -1 is no long", s, 3, 0, ALL, MIN, MAX, ALL, MIN);
        s.between(1, false, -1, 2, -1);
        s.between(2, false, 3, 5, 4);
        s.operate(MULTIPLY, 64, 3, 1, 2);
        has("6: MULTIPLY, LEAST is -1", s, 3, 0, ALL, -5, 10, ALL, -4);
        s.between(1, false, -1, 1, -1);
        s.between(2, false, MIN, 0, MIN);
        s.operate(MULTIPLY, 64, 3, 1, 2);
        has("6: MULTIPLY, -1 by -2^63 is no long", s, 3, 0, ALL, MIN, MAX, ALL, MIN);
        s.between(1, false, -(1L << 62), 1, 1);
        s.between(2, false, -4, 1, 1);
        s.operate(MULTIPLY, 64, 3, 1, 2);
        has("6: MULTIPLY, only LEAST * LEAST' is no long", s, 3, 0, ALL, MIN, MAX, ALL, 1);
        s.constant(1, 0x9_00000003L);
        s.constant(2, 0xFFFFFFFFL);
        s.operate(MULTIPLY, 32, 3, 1, 2);
        hasJust("6: MULTIPLY of 32 bits", s, 3, 0xFFFFFFFDL);
    }

    private static void operateDivide() {
        Sieve s = new Sieve();
        s.between(1, true, 20, 50, 23);
        s.between(2, true, 3, 7, 5);
        s.operate(DIVIDE, 64, 3, 1, 2);
        has("6: DIVIDE", s, 3, 2, 16, 2, 16, 31, 4);
        s.between(2, true, 0, 7, 0);
        s.operate(DIVIDE, 64, 3, 1, 2);
        has("6: DIVIDE, maybe by 0", s, 3, 0, 50, 0, 50, 63, 0);
        s.constant(2, 0);
        s.operate(DIVIDE, 64, 3, 1, 2);
        has("6: DIVIDE by just 0", s, 3, 0, 50, 0, 50, 63, 0);
        s.between(1, true, -10, -1, -2);
        s.between(2, true, MAX, MIN, MIN);
        s.operate(DIVIDE, 64, 3, 1, 2);
        has("6: DIVIDE, unsigned", s, 3, 1, 2, 1, 2, 3, 1);
        s.constant(1, -1);
        s.constant(2, 10);
        s.operate(DIVIDE, 64, 3, 1, 2);
        hasJust("6: DIVIDE 2^64 - 1 by 10", s, 3, 1844674407370955161L);
        s.operate(DIVIDE, 32, 3, 1, 2);
        hasJust("6: DIVIDE of 32 bits", s, 3, 429496729L);
    }

    private static void operateRest() {
        Sieve s = new Sieve();
        s.pattern(1, 8, 5, 12);
        s.between(2, true, 14, 20, 17);
        s.operate(REST, 64, 3, 1, 2);
        has("6: REST, HIGH is less than LOW'", s, 3, 8, 13, 8, 13, 5, 12);
        s.between(2, true, 13, 20, 13);
        s.operate(REST, 64, 3, 1, 2);
        has("6: REST, HIGH is LOW'", s, 3, 0, 13, 0, 13, 15, 12);
        s.between(2, true, 3, 7, 5);
        s.operate(REST, 64, 3, 1, 2);
        has("6: REST, HIGH' - 1", s, 3, 0, 6, 0, 6, 7, 2);
        s.between(2, true, 0, 7, 0);
        s.operate(REST, 64, 3, 1, 2);
        has("6: REST, maybe by 0", s, 3, 0, 13, 0, 13, 15, 12);
        s.constant(1, -1);
        s.constant(2, MIN);
        s.operate(REST, 64, 3, 1, 2);
        has("6: REST, unsigned", s, 3, 0, MAX, 0, MAX, MAX, MAX);
        s.constant(1, 0x1_00000007L);
        s.constant(2, 0x1_00000000L);
        s.operate(REST, 32, 3, 1, 2);
        has("6: REST of 32 bits, by 0 once it is cut", s, 3, 0, 7, 0, 7, 7, 7);
    }

    private static void operateBits() {
        Sieve s = new Sieve();
        s.pattern(1, 0b1100, 0b0011, 0b1101);
        s.pattern(2, 0b1010, 0b0101, 0b1111);
        s.operate(AND, 64, 3, 1, 2);
        has("6: AND", s, 3, 8, 15, 8, 15, 7, 13);
        s.operate(OR, 64, 3, 1, 2);
        has("6: OR", s, 3, 14, 15, 14, 15, 1, 15);
        s.operate(XOR, 64, 3, 1, 2);
        has("6: XOR", s, 3, 0, 7, 0, 7, 7, 2);
        s.between(1, true, 0, 9, 9);
        s.between(2, true, 0, 12, 12);
        s.operate(AND, 64, 3, 1, 2);
        has("6: AND, HIGH", s, 3, 0, 9, 0, 9, 15, 8);
        s.between(1, true, 5, 9, 9);
        s.between(2, true, 6, 12, 12);
        s.operate(OR, 64, 3, 1, 2);
        has("6: OR, LOW", s, 3, 6, 15, 6, 15, 15, 13);
        s.constant(1, -1);
        s.constant(2, 5);
        s.operate(XOR, 32, 3, 1, 2);
        hasJust("6: XOR of 32 bits", s, 3, 0xFFFFFFFAL);
    }

    private static void operateLeft() {
        Sieve s = new Sieve();
        s.pattern(1, 9, 4, 13);
        s.constant(2, 66);
        s.operate(LEFT, 64, 3, 1, 2);
        has("6: LEFT by 66 is by 2", s, 3, 36, 52, 36, 52, 16, 52);
        s.between(1, false, -3, 4, -3);
        s.constant(2, 32);
        s.operate(LEFT, 64, 3, 1, 2);
        has("6: LEFT, as longs", s, 3, 0, -(1L << 32), -3L << 32, 4L << 32, -(1L << 32), -3L << 32);
        s.between(1, true, 3, 4, 3);
        s.constant(2, 62);
        s.operate(LEFT, 64, 3, 1, 2);
        has("6: LEFT, bits go out", s, 3, 0, -(1L << 62), MIN, 1L << 62, -(1L << 62), -(1L << 62));
        s.between(1, true, 1, 3, 2);
        s.operate(LEFT, 64, 3, 1, 2);
        has("6: LEFT, HIGH below 2^(64 - s)", s, 3, 1L << 62, -(1L << 62), MIN, 1L << 62, -(1L << 62), MIN);
        s.pattern(1, 4, ~7L, 12);
        s.between(2, true, 3, 5, 4);
        s.operate(LEFT, 64, 3, 1, 2);
        has("6: LEFT by 3 to 5", s, 3, 0, -32, MIN, MAX - 31, -32, 192);
        s.between(2, true, 63, 64, 64);
        s.operate(LEFT, 64, 3, 1, 2);
        has("6: LEFT by 63 or 64", s, 3, 0, -4, MIN, MAX - 3, -4, 12);
        s.between(2, true, 62, 63, 62);
        s.operate(LEFT, 64, 3, 1, 2);
        hasJust("6: LEFT, more zeros than bits", s, 3, 0);
        s.constant(1, 0x80000001L);
        s.constant(2, 33);
        s.operate(LEFT, 32, 3, 1, 2);
        hasJust("6: LEFT of 32 bits by 33 is by 1", s, 3, 2);
        s.any(1, 7);
        s.between(2, true, 31, 32, 32);
        s.operate(LEFT, 32, 3, 1, 2);
        has("6: LEFT of 32 bits by 31 or 32", s, 3, 0, 0xFFFFFFFFL, 0, 0xFFFFFFFFL, 0xFFFFFFFFL, 7);
    }

    private static void operateRight() {
        Sieve s = new Sieve();
        s.between(1, false, -16, -9, -12);
        s.constant(2, 2);
        s.operate(RIGHT, 64, 3, 1, 2);
        has("6: RIGHT", s, 3, -16L >>> 2, -9L >>> 2, -16L >>> 2, -9L >>> 2, 1, -12L >>> 2);
        s.operate(SIGNED_RIGHT, 64, 3, 1, 2);
        has("6: SIGNED RIGHT", s, 3, -4, -3, -4, -3, 1, -3);
        s.between(1, true, 40, 100, 41);
        s.between(2, true, 1, 3, 2);
        s.operate(RIGHT, 64, 3, 1, 2);
        has("6: RIGHT by 1 to 3", s, 3, 5, 50, 5, 50, 63, 10);
        s.between(2, true, 1, 64, 64);
        s.operate(RIGHT, 64, 3, 1, 2);
        has("6: RIGHT by 1 to 64", s, 3, 0, 100, 0, 100, 127, 41);
        s.between(1, false, -40, 100, -40);
        s.between(2, true, 1, 3, 3);
        s.operate(SIGNED_RIGHT, 64, 3, 1, 2);
        has("6: SIGNED RIGHT by 1 to 3", s, 3, 0, ALL, -20, 50, ALL, -5);
        s.between(1, false, -40, -20, -40);
        s.operate(SIGNED_RIGHT, 64, 3, 1, 2);
        has("6: SIGNED RIGHT of negatives", s, 3, -20, -3, -20, -3, 31, -5);
        s.between(2, true, 1, 64, 3);
        s.operate(SIGNED_RIGHT, 64, 3, 1, 2);
        has("6: SIGNED RIGHT by 1 to 64", s, 3, -40, -1, -40, -1, 63, -5);
        s.pattern(1, 0, MIN | 8, MIN);
        s.constant(2, 2);
        s.operate(SIGNED_RIGHT, 64, 3, 1, 2);
        has("6: SIGNED RIGHT, bit 63 is open", s, 3, 0, (MIN >> 2) + 2, MIN >> 2, 2, (MIN >> 2) + 2, MIN >> 2);
        s.constant(1, 0x1_F0000000L);
        s.constant(2, 36);
        s.operate(SIGNED_RIGHT, 32, 3, 1, 2);
        hasJust("6: SIGNED RIGHT of 32 bits by 36 is by 4", s, 3, 0xFF000000L);
        s.operate(RIGHT, 32, 3, 1, 2);
        hasJust("6: RIGHT of 32 bits by 36 is by 4", s, 3, 0x0F000000L);
        s.between(2, true, 1, 32, 31);
        s.operate(RIGHT, 32, 3, 1, 2);
        has("6: RIGHT of 32 bits by 1 to 32", s, 3, 1, 0xF0000000L, 1, 0xF0000000L, 0xFFFFFFFFL, 1);
        s.between(1, true, 16, 40, 16);
        s.between(2, true, 2, 31, 3);
        s.operate(RIGHT, 32, 3, 1, 2);
        has("6: RIGHT of 32 bits by 2 to 31", s, 3, 0, 10, 0, 10, 15, 2);
    }

    private static void operatePlaces() {
        Sieve s = new Sieve();
        s.pattern(1, 8, 5, 12);
        s.any(2, 77);
        s.operate(MOVE, 64, 3, 2, 1);
        has("6: MOVE is of b", s, 3, 8, 13, 8, 13, 5, 12);
        s.constant(1, -1);
        s.operate(MOVE, 32, 1, 2, 1);
        hasJust("6: MOVE of 32 bits, in its place", s, 1, 0xFFFFFFFFL);
        s.between(4, true, 1, 2, 2);
        s.operate(ADD, 64, 4, 4, 4);
        has("6: ADD, all three the same place", s, 4, 2, 4, 2, 4, 7, 4);
    }

    private static void cut() {
        Sieve s = new Sieve();
        s.between(1, true, 0x123, 0x145, 0x130);
        s.cut(2, 1, 8);
        has("7: cut to 8, the same above", s, 2, 0x23, 0x45, 0x23, 0x45, 0x7F, 0x30);
        s.between(1, true, 0x1F0, 0x203, 0x201);
        s.cut(2, 1, 8);
        has("7: cut to 8, not the same above", s, 2, 0, 255, 0, 255, 255, 1);
        s.cut(2, 1, 16);
        has("7: cut to 16", s, 2, 0x1F0, 0x203, 0x1F0, 0x203, 0x3FF, 0x201);
        s.constant(1, -2);
        s.cut(2, 1, 32);
        hasJust("7: cut to 32", s, 2, 0xFFFFFFFEL);
        s.cut(1, 1, 16);
        hasJust("7: cut in its place", s, 1, 0xFFFE);
        s.between(1, false, -3, 5, -3);
        s.cut(2, 1, 64);
        has("7: cut to 64", s, 2, 0, ALL, -3, 5, ALL, -3);
        s.cut(2, 1, 8);
        has("7: cut of negatives", s, 2, 0, 255, 0, 255, 255, 253);
    }

    private static void extend() {
        Sieve s = new Sieve();
        s.between(1, true, 0x105, 0x17F, 0x106);
        s.extend(2, 1, 8);
        has("8: extend from 8, below 128", s, 2, 5, 127, 5, 127, 127, 6);
        s.between(1, true, 0x180, 0x1FE, 0x180);
        s.extend(2, 1, 8);
        has("8: extend from 8, from 128 on", s, 2, -128, -2, -128, -2, 127, -128);
        s.between(1, true, 0x17F, 0x180, 0x17F);
        s.extend(2, 1, 8);
        has("8: extend from 8, both", s, 2, 0, ALL, -128, 127, ALL, 127);
        s.pattern(1, 1, 0x80, 0x81);
        s.extend(2, 1, 8);
        has("8: extend, bits", s, 2, 1, -127, -127, 1, -128, -127);
        s.constant(1, 0x8000);
        s.extend(2, 1, 16);
        hasJust("8: extend from 16", s, 2, -32768);
        s.extend(2, 1, 32);
        hasJust("8: extend from 32", s, 2, 32768);
        s.any(1, 0x1_80000000L);
        s.extend(1, 1, 32);
        has("8: extend in its place", s, 1, 0, ALL, Integer.MIN_VALUE, Integer.MAX_VALUE, ALL, Integer.MIN_VALUE);
    }

    private static void swap() {
        Sieve s = new Sieve();
        s.constant(1, 0x0102030405060708L);
        s.swap(2, 1, 64);
        hasJust("9: swap by 64", s, 2, 0x0807060504030201L);
        s.swap(2, 1, 32);
        hasJust("9: swap by 32", s, 2, 0x08070605L);
        s.swap(2, 1, 16);
        hasJust("9: swap by 16", s, 2, 0x0807L);
        s.pattern(1, 0x1234, 0x00F1, 0x1234);
        s.swap(2, 1, 16);
        has("9: swap, bits", s, 2, 0x0412, 0xF512, 0x0412, 0xF512, 0xF100, 0x3412);
        s.between(1, true, 1, 3, 2);
        s.swap(1, 1, 16);
        has("9: swap gives bounds up", s, 1, 0, 0x300, 0, 0x300, 0x300, 0x200);
        s.any(1, 0x11);
        s.swap(2, 1, 64);
        has("9: swap of all", s, 2, 0, ALL, MIN, MAX, ALL, 0x11L << 56);
    }

    private static void join() {
        Sieve s = new Sieve();
        s.constant(1, 4);
        s.constant(2, 6);
        s.join(3, 1, 2, true);
        has("10: 4 and 6, first", s, 3, 4, 6, 4, 6, 2, 4);
        s.join(3, 1, 2, false);
        has("10: 4 and 6, second", s, 3, 4, 6, 4, 6, 2, 6);
        s.between(1, true, 8, 9, 8);
        s.between(2, false, -2, -1, -1);
        s.join(2, 1, 2, false);
        has("10: over its own place", s, 2, 8, -1, -2, 9, ~8L, -1);
    }

    private static void widen() {
        Sieve s = new Sieve();
        s.between(1, true, 4, 6, 5);
        s.between(2, true, 4, 7, 7);
        s.widen(3, 1, 2);
        has("11: HIGH and GREATEST go, bits stay", s, 3, 4, 7, 4, 7, 3, 7);
        s.between(2, true, 4, 9, 9);
        s.widen(3, 1, 2);
        has("11: up to the known bits", s, 3, 4, 15, 4, 15, 15, 9);
        s.between(2, true, 3, 6, 3);
        s.widen(3, 1, 2);
        has("11: LOW and LEAST go", s, 3, 0, 6, 0, 6, 7, 3);
        s.between(2, false, -1, 6, -1);
        s.widen(3, 1, 2);
        has("11: LEAST goes, and with it LOW and HIGH", s, 3, 0, ALL, MIN, 6, ALL, -1);
        s.between(2, true, 5, 5, 5);
        s.widen(1, 1, 2);
        has("11: Y within X", s, 1, 4, 6, 4, 6, 3, 5);
    }

    private static void branchSame() {
        Sieve s = new Sieve();
        // The document's first worked case: 3 and 5.
        s.pattern(1, 1, 6, 3);
        s.between(2, true, 2, 6, 3);
        check("12: same", s.branch(0, 1, 2), true);
        has("12: 3 and 5, X", s, 1, 3, 5, 3, 5, 6, 3);
        has("12: 3 and 5, Y", s, 2, 3, 5, 3, 5, 6, 3);
        // And its second: 5, 6, 7.
        s.between(1, true, 5, MIN + 1, 6);
        s.between(2, false, -3, 7, 6);
        check("12: same", s.branch(0, 1, 2), true);
        has("12: 5, 6, 7", s, 1, 5, 7, 5, 7, 3, 6);
        s.between(1, true, 4, 9, 4);
        s.constant(2, 9);
        check("12: not the same", s.branch(0, 1, 2), false);
        has("12: 9 is out, HIGH", s, 1, 4, 8, 4, 8, 15, 4);
        hasJust("12: and Y stays", s, 2, 9);
        s.constant(2, 6);
        check("12: other", s.branch(1, 2, 1), true);
        has("12: 6 is inside and stays", s, 1, 4, 8, 4, 8, 15, 4);
        s.between(1, false, -2, 3, 1);
        s.constant(2, 0);
        check("12: other", s.branch(1, 1, 2), true);
        has("12: 0 is out, LOW", s, 1, 1, ALL, -2, 3, ALL, 1);
        s.constant(2, -2);
        check("12: other", s.branch(1, 2, 1), true);
        has("12: -2 is out, LEAST", s, 1, 1, ALL, -1, 3, ALL, 1);
        s.constant(2, -1);
        check("12: other", s.branch(1, 1, 2), true);
        has("12: -1 is out", s, 1, 1, 3, 1, 3, 3, 1);
        s.between(1, false, -3, 3, 0);
        s.constant(2, -1);
        check("12: other", s.branch(1, 1, 2), true);
        has("12: -1 is out, HIGH alone", s, 1, 0, -2, -3, 3, ALL, 0);
        check("12: and it is", s.has(1, -1), false);
        s.constant(2, 3);
        check("12: other", s.branch(1, 1, 2), true);
        has("12: 3 is out, GREATEST alone", s, 1, 0, -2, -3, 2, ALL, 0);
    }

    private static void branchOrder() {
        Sieve s = new Sieve();
        for (int shape = 0; shape <= 4; shape += 4) {
            boolean unsigned = shape == 0;
            s.between(1, true, 3, 12, 3);
            s.between(2, true, 0, 9, 9);
            check("12: less", s.branch(2 + shape, 1, 2), true);
            has("12: less, X", s, 1, 3, 8, 3, 8, 15, 3);
            has("12: less, Y", s, 2, 4, 9, 4, 9, 15, 9);
            s.between(1, unsigned, 3, 12, 9);
            s.between(2, unsigned, 0, 9, 9);
            check("12: not more", s.branch(3 + shape, 1, 2), true);
            has("12: not more, X", s, 1, 3, 9, 3, 9, 15, 9);
            has("12: not more, Y", s, 2, 3, 9, 3, 9, 15, 9);
            s.between(1, unsigned, 0, 9, 9);
            s.between(2, unsigned, 3, 12, 3);
            check("12: more", s.branch(4 + shape, 1, 2), true);
            has("12: more, X", s, 1, 4, 9, 4, 9, 15, 9);
            has("12: more, Y", s, 2, 3, 8, 3, 8, 15, 3);
            s.between(1, unsigned, 0, 9, 9);
            s.between(2, unsigned, 3, 12, 9);
            check("12: not less", s.branch(5 + shape, 1, 2), true);
            has("12: not less, X", s, 1, 3, 9, 3, 9, 15, 9);
            has("12: not less, Y", s, 2, 3, 9, 3, 9, 15, 9);
            check("12: the opposite of not more", s.branch(4 + shape, 1, 2), false);
        }
        s.between(1, false, -4, 9, -3);
        s.constant(2, 5);
        check("12: -3 is not less than 5, unsigned", s.branch(2, 1, 2), false);
        has("12: X is 5 or more, unsigned", s, 1, 5, ALL, -4, 9, ALL, -3);
        s.between(1, false, -4, 9, -3);
        check("12: -3 is less than 5", s.branch(6, 1, 2), true);
        has("12: X is less than 5", s, 1, 0, ALL, -4, 4, ALL, -3);
        check("12: 5 is not less than X", s.branch(9, 1, 2), false);
        s.between(1, false, -4, 9, 7);
        check("12: 7 is more than 5", s.branch(8, 1, 2), true);
        has("12: X is more than 5", s, 1, 6, 9, 6, 9, 15, 7);
        s.any(1, 0);
        s.any(2, ALL);
        check("12: 0 is less than 2^64 - 1", s.branch(2, 1, 2), true);
        has("12: any is less", s, 1, 0, -2, MIN, MAX, ALL, 0);
        has("12: any is more", s, 2, 1, ALL, MIN, MAX, ALL, ALL);
        s.any(1, 7);
        s.any(2, 6);
        check("12: 7 is not more than 6, as longs", s.branch(7, 1, 2), false);
        has("12: X is more than some long", s, 1, 0, ALL, MIN + 1, MAX, ALL, 7);
        has("12: Y is less than some long", s, 2, 0, ALL, MIN, MAX - 1, ALL, 6);
    }

    private static void branchBits() {
        Sieve s = new Sieve();
        s.between(1, true, 0, 12, 9);
        s.constant(2, 8);
        check("12: bit 3 in both", s.branch(10, 1, 2), true);
        has("12: bit 3 is 1", s, 1, 8, 12, 8, 12, 7, 9);
        s.between(1, true, 0, 12, 9);
        check("12: bit 3 in both, the other way", s.branch(11, 2, 1), false);
        has("12: bit 3 is 1 again", s, 1, 8, 12, 8, 12, 7, 9);
        s.between(1, true, 0, 12, 9);
        s.constant(2, 12);
        check("12: bit 3 or 2", s.branch(10, 1, 2), true);
        has("12: two bits tell nothing", s, 1, 0, 12, 0, 12, 15, 9);
        s.between(1, true, 0, 12, 2);
        check("12: neither bit", s.branch(10, 2, 1), false);
        has("12: both bits are 0", s, 1, 0, 3, 0, 3, 3, 2);
        s.between(1, true, 0, 12, 3);
        s.between(2, true, 8, 12, 12);
        check("12: no bit in both", s.branch(11, 1, 2), true);
        has("12: Y is not single", s, 1, 0, 12, 0, 12, 15, 3);
        s.constant(1, 1);
        s.between(2, true, 8, 12, 12);
        check("12: Y by X", s.branch(11, 1, 2), true);
        has("12: Y has no bit 0", s, 2, 8, 12, 8, 12, 6, 12);
    }

    private static void branchWitnesses() {
        Sieve s = new Sieve();
        s.between(1, true, 3, 12, 7);
        s.between(2, true, 3, 12, 7);
        s.branch(2, 1, 2);
        check("12: the witnesses stay", s.witness(1), 7);
        check("12: the witnesses stay", s.witness(2), 7);
    }

    private static void decidedAre(String what, Sieve s, int... due) {
        for (int c = 0; c < due.length; c++) {
            check("13: " + what + ", comparison " + c, s.decided(c, 1, 2), due[c]);
        }
    }

    private static void decided() {
        int none = ValueSieve.NONE;
        Sieve s = new Sieve();
        s.between(1, true, 1, 4, 2);
        s.between(2, true, 5, 9, 7);
        decidedAre("1..4 and 5..9", s, 0, 1, 1, 1, 0, 0, 1, 1, 0, 0, none, none);
        s.between(2, true, 4, 9, 7);
        decidedAre("1..4 and 4..9", s, none, none, none, 1, 0, none, none, 1, 0, none, none, none);
        s.constant(2, 4);
        decidedAre("1..4 and 4", s, none, none, none, 1, 0, none, none, 1, 0, none, none, none);
        s.constant(1, 4);
        decidedAre("4 and 4", s, 1, 0, 0, 1, 0, 1, 0, 1, 0, 1, 1, 0);
        s.between(1, false, -4, -1, -2);
        decidedAre("-4..-1 and 4", s, 0, 1, 0, 0, 1, 1, 1, 1, 0, 0, 1, 0);
        s.any(1, 3);
        s.constant(2, 0);
        decidedAre("any and 0", s, none, none, 0, none, none, 1, none, none, none, none, 0, 1);
        s.constant(2, -1);
        decidedAre("any and -1", s, none, none, none, 1, 0, none, none, none, none, none, none, none);
        s.constant(2, MAX);
        decidedAre("any and 2^63 - 1", s, none, none, none, none, none, none, none, 1, 0, none, none, none);
        s.constant(2, MIN);
        decidedAre("any and -2^63", s, none, none, none, none, none, none, 0, none, none, 1, none, none);
        s.pattern(1, 1, 6, 3);
        s.between(2, true, 4, 6, 5);
        decidedAre("bits apart from 4..6", s, none, none, none, none, none, none, none, none, none, none, none, none);
        s.constant(2, 6);
        decidedAre("an odd number and 6", s, 0, 1, none, none, none, none, none, none, none, none, none, none);
        // Bit 3 is known in 9 .. 14; without the bits of 7 only 8 would be left, which isn't in it.
        s.between(1, true, 9, 14, 9);
        s.constant(2, 7);
        check("13: bits and bounds together", s.decided(10, 1, 2), 1);
        check("13: bits and bounds together, the opposite", s.decided(11, 1, 2), 0);
    }

    private static void within() {
        Sieve s = new Sieve();
        s.between(1, true, 4, 6, 5);
        s.between(2, true, 4, 7, 5);
        s.pattern(3, 4, 2, 4);
        s.any(4, 0);
        check("14: 4..6 in 4..7", s.within(1, 2), true);
        check("14: 4..7 not in 4..6", s.within(2, 1), false);
        check("14: 4, 6 in 4..6", s.within(3, 1), true);
        check("14: 4..6 not in 4, 6", s.within(1, 3), false);
        check("14: in itself", s.within(1, 1), true);
        check("14: in any", s.within(2, 4), true);
        check("14: any not in it", s.within(4, 2), false);
        s.pattern(5, 6, 1, 6);
        check("14: another known bit", s.within(5, 3), false);
        s.between(6, false, -3, 2, 0);
        s.between(7, false, -3, 3, 0);
        s.between(8, false, -4, 2, 0);
        check("14: -3..2 in -3..3", s.within(6, 7), true);
        check("14: -3..3 not in -3..2", s.within(7, 6), false);
        check("14: -4..2 not in -3..2", s.within(8, 6), false);
        s.between(9, true, 2, -3, 5);
        s.between(10, true, 1, -3, 5);
        s.between(11, true, 2, -2, 5);
        check("14: LOW", s.within(10, 9), false);
        check("14: HIGH", s.within(11, 9), false);
        check("14: both", s.within(9, 10) && s.within(9, 11), true);
    }

    private static void questions() {
        Sieve s = new Sieve();
        s.between(1, false, -4, 9, -1);
        check("15: has -4", s.has(1, -4), true);
        check("15: has -5", s.has(1, -5), false);
        check("15: has 9", s.has(1, 9), true);
        check("15: has 10", s.has(1, 10), false);
        s.between(2, true, 9, -4, 10);
        check("15: has MIN", s.has(2, MIN), true);
        check("15: has 8", s.has(2, 8), false);
        check("15: has -4", s.has(2, -4), true);
        check("15: has -3", s.has(2, -3), false);
        check("16: LOW", s.least(1, true), 0);
        check("16: LEAST", s.least(1, false), -4);
        check("17: HIGH", s.greatest(1, true), -1);
        check("17: GREATEST", s.greatest(1, false), 9);
        s.pattern(3, 1, 12, 5);
        check("18: unknown", s.unknown(3), 12);
        check("19: witness", s.witness(3), 5);
        check("20: strays", s.strays(), 0);
    }

    public static void main(String[] args) {
        newObject();
        any();
        constant();
        between();
        pattern();
        operateAdd();
        operateSubtract();
        operateMultiply();
        operateDivide();
        operateRest();
        operateBits();
        operateLeft();
        operateRight();
        operatePlaces();
        cut();
        extend();
        swap();
        join();
        widen();
        branchSame();
        branchOrder();
        branchBits();
        branchWitnesses();
        decided();
        within();
        questions();
        if (wrong != 0) {
            System.out.println(wrong + " answers are not as due");
            System.exit(1);
        }
    }
}

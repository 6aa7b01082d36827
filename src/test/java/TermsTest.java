import java.util.function.Consumer;

/** The sentences of 'What it is' and 'Terms' on numbers, sayings, tightening and places, at their edges. */
public final class TermsTest {
    private static final long MIN = Trial.MIN;
    private static final long MAX = Trial.MAX;
    private static final long ALL = Trial.ALL;
    private static final int ADD = 0;
    private static final int XOR = 7;
    private static final int LEFT = 8;
    private static final int MOVE = 11;
    // What it takes to look at all that is said of a place.
    private static final int LOOK_CALLS = 8;

    private static void calls(Sentences doc) {
        doc.sentence("An object is used for at most 512 calls - the 512th is still answered", t -> {
            t.constant(2, 1);
            while (t.callsLeft() > 1) {
                t.operate(ADD, 64, 1, 1, 2);
            }
            t.answers("the 512th call, witness(1)", t.witness(1), 510);
        });
        doc.sentence("An object is used for at most 512 calls - the 512th may write", t -> {
            t.unsigned(1, 0, 1);
            while (t.callsLeft() > 1) {
                t.join(1, 1, 0, true);
            }
            t.answers("the 512th call, branch(1, 0, 1)", t.branch(1, 0, 1), false);
        });
        calls(doc, "any", t -> t.any(3, 5), t -> t.isAll(3));
        calls(doc, "constant", t -> t.constant(3, 5), t -> t.is(3, 5, 5, 5, 5, 0));
        calls(doc, "between", t -> t.between(3, true, 3, 12, 7), t -> t.isFromTo(3, 3, 12, 15));
        calls(doc, "pattern", t -> t.pattern(3, 8, 5, 12), t -> t.isFromTo(3, 8, 13, 5));
        calls(doc, "operate", t -> t.operate(ADD, 64, 3, 1, 2), t -> t.isFromTo(3, 0x1F6, 0x1FE, 15));
        calls(doc, "cut", t -> t.cut(3, 1, 8), t -> t.isFromTo(3, 0xF3, 0xF7, 7));
        calls(doc, "extend", t -> t.extend(3, 1, 8), t -> t.isFromTo(3, -13, -9, 7));
        calls(doc, "swap", t -> t.swap(3, 1, 16), t -> t.isFromTo(3, 0xF001, 0xF701, 0x700));
        calls(doc, "join", t -> t.join(3, 1, 2, true), t -> t.isFromTo(3, 3, 0x1F7, 0x1F7));
        calls(doc, "widen", t -> t.widen(3, 1, 2), t -> t.isFromTo(3, 0, 0x1F7, 0x1F7));
        calls(doc, "branch", t -> t.branch(4, 1, 2), t -> t.isFromTo(1, 0x1F3, 0x1F7, 7));
        calls(doc, "decided", t -> t.decided(4, 1, 2), t -> t.isFromTo(2, 3, 7, 7));
        calls(doc, "within", t -> t.within(1, 2), t -> t.isFromTo(2, 3, 7, 7));
        calls(doc, "has", t -> t.has(2, 5), t -> t.isFromTo(2, 3, 7, 7));
        doc.sentence("An object is used for at most 512 calls - refused calls spoil nothing", t -> {
            while (t.callsLeft() > 9) {
                int k = t.callsLeft();
                try {
                    t.any(16 + k, k);
                    t.fault("any(" + (16 + k) + ") did not throw");
                } catch (IndexOutOfBoundsException e) {
                    continue;
                }
            }
            t.isJust(15, 0);
        });
    }

    /** One call over and over, and the last of the 512 calls to look at what came of it. */
    private static void calls(Sentences doc, String name, Consumer<Trial> call, Consumer<Trial> look) {
        doc.sentence("An object is used for at most 512 calls - most of them " + name, t -> {
            t.unsigned(1, 0x1F3, 0x1F7);
            t.unsigned(2, 3, 7);
            while (t.callsLeft() > LOOK_CALLS) {
                call.accept(t);
            }
            look.accept(t);
        });
    }

    private static void numbers(Sentences doc) {
        doc.sentence("UNSIGNED they are 0 .. 2^64 - 1 with the same bits - the ends", t -> {
            t.constant(1, -1);
            t.isJust(1, -1);
            t.unsigned(2, 0, -1);
            t.isAll(2);
            t.unsigned(3, 0, 0);
            t.isJust(3, 0);
            t.unsigned(4, -1, -1);
            t.isJust(4, -1);
        });
        doc.sentence("UNSIGNED they are 0 .. 2^64 - 1 with the same bits - 2^63 comes behind 2^63 - 1", t -> {
            t.unsigned(1, MAX, MIN);
            t.is(1, MAX, MIN, MIN, MAX, ALL);
            t.holds(1, MAX, MIN);
            t.lacks(1, MAX - 1, MIN + 1, 0, -1);
        });
        for (int k = 0; k < 64; k++) {
            long weight = 1L << k;
            doc.sentence("Bit k has the weight 2^k - bit " + k, t -> {
                t.pattern(1, 0, weight, weight);
                t.is(1, 0, weight, Math.min(weight, 0), Math.max(weight, 0), weight);
                t.pattern(1, weight, 0, weight);
                t.isJust(1, weight);
            });
        }
    }

    private static void sayings(Sentences doc) {
        doc.sentence("LOW and HIGH, between which they are unsigned (both among them)", t -> {
            t.unsigned(1, 3, 12);
            t.holds(1, 3, 4, 11, 12);
            t.lacks(1, 2, 13, -3, MIN + 3);
            t.unsigned(2, MAX - 1, MIN + 1);
            t.holds(2, MAX - 1, MAX, MIN, MIN + 1);
            t.lacks(2, MAX - 2, MIN + 2, 0, -1);
            t.unsigned(3, -2, -1);
            t.holds(3, -2, -1);
            t.lacks(3, -3, 0);
        });
        doc.sentence("LEAST and GREATEST, between which they are as longs (both among them)", t -> {
            t.longs(1, -4, 9);
            t.holds(1, -4, -3, 0, 8, 9);
            t.lacks(1, -5, 10, MIN, MAX);
            t.longs(2, MIN, MIN);
            t.isJust(2, MIN);
            t.longs(3, MAX, MAX);
            t.isJust(3, MAX);
            t.longs(4, MAX - 1, MAX);
            t.holds(4, MAX - 1, MAX);
            t.lacks(4, MAX - 2, MIN);
        });
        doc.sentence("Where nothing is said: no bit is known; 0 and 2^64 - 1; -2^63 and 2^63 - 1", t -> {
            t.any(1, 5);
            t.isAll(1);
            t.holds(1, 0, 1, -1, MIN, MAX, 5);
        });
        doc.sentence("Its numbers are all for which all sayings hold - each of the five keeps one out", t -> {
            // The even ones of 16 .. 31, with bit 63 and without it; unsigned 18 .. 2^63 + 26; as longs up to 28.
            t.pattern(1, 16, MIN | 14, 20);
            t.between(2, true, 18, MIN + 26, 20);
            t.branch(0, 1, 2);
            t.between(2, false, MIN + 18, 28, 20);
            t.branch(0, 1, 2);
            t.is(1, 18, MIN + 26, MIN + 18, 28, MIN | 14);
            t.holds(1, 18, 20, 28, MIN + 18, MIN + 26);
            t.lacks(1, 19, 16, MIN + 28, MIN + 16, 30, 50);
        });
    }

    private static void tightBounds(Sentences doc) {
        doc.sentence("bit 0 known to be 1, bits 1 and 2 open, LOW 2, HIGH 6: its numbers are 3 and 5", t -> {
            t.pattern(1, 1, 6, 3);
            t.between(2, true, 2, 6, 3);
            t.answers("branch(0, 1, 2)", t.branch(0, 1, 2), true);
            for (int place = 1; place <= 2; place++) {
                t.isFromTo(place, 3, 5, 6);
                t.holds(place, 3, 5);
                t.lacks(place, 1, 2, 4, 6, 7);
            }
        });
        doc.sentence("LOW 5, HIGH 2^63 + 1, LEAST -3, GREATEST 7: the numbers are 5, 6, 7", t -> {
            t.between(1, true, 5, MIN + 1, 6);
            t.between(2, false, -3, 7, 6);
            t.answers("branch(0, 1, 2)", t.branch(0, 1, 2), true);
            for (int place = 1; place <= 2; place++) {
                t.isFromTo(place, 5, 7, 3);
                t.holds(place, 5, 6, 7);
                t.lacks(place, 4, 8, MIN, MIN + 1, -3);
            }
        });
        // The numbers with bit 0 and, as one likes, bits 1 and 3 are 1, 3, 9, 11.
        long[][] cases = {{0, 12, 1, 11, 10}, {2, 10, 3, 9, 10}, {3, 9, 3, 9, 10}, {4, 11, 9, 11, 2}, {4, 10, 9, 9, 0},
            {2, 8, 3, 3, 0}, {0, 8, 1, 3, 2}, {1, 1, 1, 1, 0}, {11, 11, 11, 11, 0}, {10, -1, 11, 11, 0}};
        for (long[] c : cases) {
            doc.sentence("LOW, HIGH are themselves numbers of it - 1, 3, 9, 11 from " + c[0] + " to " + c[1], t -> {
                t.pattern(1, 1, 10, c[2]);
                t.between(2, true, c[0], c[1], c[2]);
                t.branch(0, 1, 2);
                t.isFromTo(1, c[2], c[3], c[4]);
                t.isFromTo(2, c[2], c[3], c[4]);
            });
            doc.sentence("LEAST, GREATEST are themselves numbers of it - the same with bit 63, " + c[0], t -> {
                long to = c[1] == -1 ? MAX : c[1];
                t.pattern(1, MIN | 1, 10, MIN | c[2]);
                t.between(2, false, MIN | c[0], MIN | to, MIN | c[2]);
                t.branch(0, 1, 2);
                t.isFromTo(1, MIN | c[2], MIN | c[3], c[4]);
                t.isFromTo(2, MIN | c[2], MIN | c[3], c[4]);
            });
        }
    }

    private static void tightHalves(Sentences doc) {
        doc.sentence("LOW, HIGH, LEAST, GREATEST are themselves numbers of it - all four are others", t -> {
            // 1, 9, and both with bit 63.
            t.pattern(1, 1, MIN | 8, 1);
            t.is(1, 1, MIN | 9, MIN | 1, 9, MIN | 8);
            t.between(2, false, MIN + 2, 5, 1);
            t.branch(0, 1, 2);
            t.is(1, 1, MIN | 9, MIN | 9, 1, MIN | 8);
            t.pattern(1, 1, MIN | 8, 9);
            t.between(2, true, 2, MIN + 5, 9);
            t.branch(0, 1, 2);
            t.is(1, 9, MIN | 1, MIN | 1, 9, MIN | 8);
        });
        doc.sentence("all bits that are the same in all of them are known - both halves count", t -> {
            t.between(1, true, 5, MIN + 1, MIN);
            t.between(2, false, MIN, 7, MIN);
            t.branch(0, 1, 2);
            t.is(1, 5, MIN + 1, MIN, 7, MIN | 7);
            t.lacks(1, 4, 8, MIN + 2, -1);
            // 4, 2^63 + 6, 2^63 + 7, and then 2^63 + 7 goes: bit 0 is known.
            t.pattern(1, 4, MIN | 3, 4);
            t.between(2, false, MIN + 6, 4, 4);
            t.branch(0, 1, 2);
            t.is(1, 4, MIN + 7, MIN + 6, 4, MIN | 3);
            t.between(2, true, 0, MIN + 6, 4);
            t.branch(0, 1, 2);
            t.is(1, 4, MIN + 6, MIN + 6, 4, MIN | 2);
        });
        doc.sentence("all bits that are the same in all of them are known - only numbers below 2^63 are left", t -> {
            t.between(1, false, -3, 7, 6);
            t.between(2, true, 2, MAX, 6);
            t.branch(0, 1, 2);
            t.isFromTo(1, 2, 7, 7);
        });
        doc.sentence("all bits that are the same in all of them are known - only numbers from 2^63 on are left", t -> {
            t.between(1, false, -3, 7, -2);
            t.between(2, true, 8, -1, -2);
            t.branch(0, 1, 2);
            t.isFromTo(1, -3, -1, 3);
        });
        long[][] ranges = {{8, 11, 3}, {7, 8, 15}, {8, 8, 0}, {8, 9, 1}, {9, 10, 3}, {1L << 62, MAX, (1L << 62) - 1},
            {(1L << 62) - 1, 1L << 62, MAX}, {MIN, MIN + 1, 1}, {-4, -3, 1}, {-5, -4, 7}, {0, MAX, MAX}, {MIN, -1, MAX}};
        for (long[] r : ranges) {
            doc.sentence("all bits that are the same in all of them are known - " + r[0] + " to " + r[1], t -> {
                t.unsigned(1, r[0], r[1]);
                t.isFromTo(1, r[0], r[1], r[2]);
                t.longs(2, r[0], r[1]);
                t.isFromTo(2, r[0], r[1], r[2]);
            });
        }
        doc.sentence("all bits that are the same in all of them are known - -1 and 0 have none", t -> {
            t.longs(1, -1, 0);
            t.is(1, 0, -1, -1, 0, ALL);
            t.lacks(1, 1, -2);
        });
    }

    /** There are no numbers for all sayings of both: comparison 0 can't be. */
    private static void isNothing(Trial t) {
        t.answers("decided(0, 1, 2)", t.decided(0, 1, 2), 0);
        t.answers("decided(0, 2, 1)", t.decided(0, 2, 1), 0);
        t.answers("decided(1, 1, 2)", t.decided(1, 1, 2), 1);
    }

    private static void nothing(Sentences doc) {
        doc.sentence("When there are no numbers, that is NOTHING - known bits differ", t -> {
            t.bits(1, 1, ~1L);
            t.bits(2, 0, ~1L);
            isNothing(t);
        });
        doc.sentence("When there are no numbers, that is NOTHING - the unsigned bounds cross", t -> {
            t.unsigned(1, 0, MIN + 4);
            t.unsigned(2, MIN + 5, -1);
            isNothing(t);
        });
        doc.sentence("When there are no numbers, that is NOTHING - the bounds as longs cross", t -> {
            t.longs(1, -9, -2);
            t.longs(2, -1, 9);
            isNothing(t);
        });
        doc.sentence("When there are no numbers, that is NOTHING - 0 and 8, but from 1 to 7", t -> {
            t.bits(1, 0, 8);
            t.unsigned(2, 1, 7);
            isNothing(t);
        });
        doc.sentence("When there are no numbers, that is NOTHING - 1, 9, 17, 25, but from 10 to 16", t -> {
            t.bits(1, 1, 24);
            t.unsigned(2, 10, 16);
            isNothing(t);
        });
        doc.sentence("When there are no numbers, that is NOTHING - 2^63 - 1 and 2^63, but -5 to 5 as longs", t -> {
            t.unsigned(1, MAX, MIN);
            t.longs(2, -5, 5);
            isNothing(t);
        });
        doc.sentence("When there are no numbers, that is NOTHING - one number left is not nothing", t -> {
            t.bits(1, 0, 8);
            t.unsigned(2, 1, 8);
            t.answers("decided(0, 1, 2)", t.decided(0, 1, 2), ValueSieve.NONE);
            t.unsigned(1, 0, MIN + 5);
            t.unsigned(2, MIN + 5, -1);
            t.answers("decided(0, 1, 2)", t.decided(0, 1, 2), ValueSieve.NONE);
            t.longs(1, -9, -1);
            t.longs(2, -1, 9);
            t.answers("decided(0, 1, 2)", t.decided(0, 1, 2), ValueSieve.NONE);
        });
    }

    private static void single(Sentences doc) {
        doc.sentence("It is SINGLE when it has just one number - however it was told", t -> {
            t.constant(1, 1);
            t.constant(2, 3);
            t.make(LEFT, 64);
            t.isJust(3, 8);
            t.unsigned(2, 3, 3);
            t.make(LEFT, 64);
            t.isJust(3, 8);
            t.longs(2, 3, 3);
            t.make(LEFT, 64);
            t.isJust(3, 8);
            t.bits(2, 3, 0);
            t.make(LEFT, 64);
            t.isJust(3, 8);
        });
        doc.sentence("It is SINGLE when it has just one number - once it was tightened to one", t -> {
            t.constant(1, 1);
            t.pattern(2, 1, 10, 9);
            t.between(4, true, 4, 10, 9);
            t.branch(0, 2, 4);
            t.make(LEFT, 64);
            t.isJust(3, 1 << 9);
        });
        doc.sentence("It is SINGLE when it has just one number - with two it is not", t -> {
            t.constant(1, 1);
            t.unsigned(2, 3, 4);
            t.make(LEFT, 64);
            t.is(3, 0, -8, MIN, MAX - 7, -8);
        });
    }

    private static void places(Sentences doc) {
        for (int p = 0; p < 16; p++) {
            int place = p;
            doc.sentence("PLACES are 0 .. 15; at first both are just 0 - place " + p, t -> {
                t.isJust(place, 0);
                t.lacks(place, 1, -1, MIN, MAX);
            });
            doc.sentence("PLACES are 0 .. 15; each has a value and a number - place " + p + " alone is written", t -> {
                t.between(place, true, 3, 12, 7);
                for (int other = 0; other < 16; other++) {
                    if (other == place) {
                        t.isFromTo(other, 3, 12, 15);
                        t.isOfWitness(other, 7);
                    } else {
                        t.isJust(other, 0);
                    }
                }
            });
        }
    }

    private static void makings(Sentences doc) {
        doc.sentence("tightened from the sayings told here, the others being as where nothing is said", t -> {
            // XOR tells of bits alone, so that 5 and 6 come back with 4 and 7.
            t.unsigned(1, 5, 6);
            t.make(XOR, 64);
            t.isFromTo(3, 4, 7, 3);
        });
        long[] of64 = {3, -17, -70, 1844674407370955160L, 9, 8, -5, -13, -7168, 18014398509481983L, -1, 10};
        long[] of32 = {3, 4294967279L, 4294967226L, 429496728, 9, 8, 4294967291L, 4294967283L, 4294960128L, 4194303,
            4294967295L, 10};
        for (int operation = 0; operation <= MOVE; operation++) {
            int made = operation;
            doc.sentence("the witness comes of the witnesses in the same way as numbers - operation " + made, t -> {
                t.any(1, -7);
                t.any(2, 10);
                t.make(made, 64);
                t.isOfWitness(3, of64[made]);
                t.make(made, 32);
                t.isOfWitness(3, of32[made]);
                t.isOfWitness(1, -7);
                t.isOfWitness(2, 10);
                t.isAll(1);
                t.isAll(2);
            });
        }
    }

    private static void strays(Sentences doc) {
        doc.sentence("STRAYS are counted (There never is one)", t -> {
            t.answers("strays of a new object", t.strays(), 0);
            for (int operation = 0; operation <= MOVE; operation++) {
                t.longs(1, -3, 5);
                t.between(2, true, 1, 70, 64);
                t.make(operation, 64);
                t.make(operation, 32);
                t.extend(4, 3, 8);
                t.swap(5, 4, 16);
                t.cut(6, 5, 8);
                t.join(7, 6, 3, false);
                t.widen(8, 7, 4);
                t.branch(operation, 8, 1);
                t.answers("strays behind operation " + operation, t.strays(), 0);
            }
        });
    }

    public static void main(String[] args) {
        Sentences doc = new Sentences();
        calls(doc);
        numbers(doc);
        sayings(doc);
        tightBounds(doc);
        tightHalves(doc);
        nothing(doc);
        single(doc);
        places(doc);
        makings(doc);
        strays(doc);
        doc.end();
    }
}

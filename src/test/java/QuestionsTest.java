/** The promises 1 to 5 and 14 to 20, sentence by sentence, at their edges. */
public final class QuestionsTest {
    private static final long MIN = Trial.MIN;
    private static final long MAX = Trial.MAX;
    private static final long ALL = Trial.ALL;

    private static void makings(Sentences doc) {
        doc.sentence("ValueSieve(): All places have just 0", t -> {
            for (int p = 0; p < 16; p++) {
                t.isJust(p, 0);
                t.lacks(p, 1, -1);
            }
        });
        doc.sentence("ValueSieve(): All places have just 0 - though another object was used", t -> {
            for (int p = 0; p < 16; p++) {
                t.any(p, p + 1);
            }
            Sieve other = new Sieve();
            for (int p = 0; p < 16; p++) {
                t.answers("witness of the other's " + p, other.witness(p), 0);
                t.answers("unknown of the other's " + p, other.unknown(p), 0);
                other.constant(p, 7);
            }
            for (int p = 0; p < 16; p++) {
                t.isOfWitness(p, p + 1);
                t.answers("unknown of " + p, t.unknown(p), ALL);
            }
        });
        doc.sentence("any: the value of which nothing is said, and this witness", t -> {
            long[] witnesses = {0, 1, -1, MIN, MAX};
            for (long w : witnesses) {
                t.constant(0, 7);
                t.any(0, w);
                t.isAll(0);
                t.isOfWitness(0, w);
            }
            t.any(15, 5);
            t.isAll(15);
            t.isOfWitness(15, 5);
        });
        doc.sentence("constant: A place gets just this number", t -> {
            long[] numbers = {0, 1, -1, MIN, MAX, 1L << 32};
            for (long v : numbers) {
                t.any(15, 7);
                t.constant(15, v);
                t.isJust(15, v);
                t.lacks(15, v + 1, v - 1, v ^ MIN);
            }
        });
    }

    private static void between(Sentences doc) {
        doc.sentence("between: all numbers from one to another (both among them; unsigned)", t -> {
            t.between(15, true, 3, 12, 12);
            t.isFromTo(15, 3, 12, 15);
            t.isOfWitness(15, 12);
            t.holds(15, 3, 12);
            t.lacks(15, 2, 13);
            t.between(15, true, MAX, -1, -1);
            t.is(15, MAX, -1, MIN, MAX, ALL);
            t.holds(15, MAX, MIN, -1);
            t.lacks(15, MAX - 1, 0);
        });
        doc.sentence("between: all numbers from one to another (both among them; as longs)", t -> {
            t.between(15, false, -3, 12, 12);
            t.is(15, 0, ALL, -3, 12, ALL);
            t.isOfWitness(15, 12);
            t.holds(15, -3, 12, 0);
            t.lacks(15, -4, 13);
            t.between(15, false, MIN, 0, MIN);
            t.is(15, 0, ALL, MIN, 0, ALL);
            t.lacks(15, 1, MAX);
            t.between(15, false, MIN, MAX, MAX);
            t.isAll(15);
        });
        doc.sentence("between: the witness is one of these - at both ends", t -> {
            t.between(1, true, 3, 12, 3);
            t.isOfWitness(1, 3);
            t.between(1, true, 3, 12, 12);
            t.isOfWitness(1, 12);
            t.between(1, true, 12, 12, 12);
            t.isJust(1, 12);
            t.between(1, false, -3, 2, -3);
            t.isOfWitness(1, -3);
            t.between(1, false, -3, 2, 2);
            t.isOfWitness(1, 2);
            t.between(1, false, -3, -3, -3);
            t.isJust(1, -3);
        });
    }

    private static void pattern(Sentences doc) {
        doc.sentence("pattern: all numbers that have the bits of v but where unknown has 1", t -> {
            t.pattern(15, 8, 5, 12);
            t.isFromTo(15, 8, 13, 5);
            t.isOfWitness(15, 12);
            t.holds(15, 8, 9, 12, 13);
            t.lacks(15, 10, 11, 14, 15, 0, 1, 4, 5, 24, MIN + 8);
            t.pattern(15, MIN, 0, MIN);
            t.isJust(15, MIN);
            t.pattern(15, 0, MIN, MIN);
            t.is(15, 0, MIN, MIN, 0, MIN);
            t.pattern(15, 0, ALL, 77);
            t.isAll(15);
        });
        doc.sentence("pattern: where unknown has 1, bits of v do not matter", t -> {
            t.pattern(1, 15, 5, 10);
            t.isFromTo(1, 10, 15, 5);
            t.isOfWitness(1, 10);
            t.pattern(1, ALL, ALL, 0);
            t.isAll(1);
            t.isOfWitness(1, 0);
            t.pattern(1, ALL, MIN, MAX);
            t.is(1, MAX, ALL, -1, MAX, MIN);
            // The bits of v that do not matter must not come back in what is made of the place.
            t.pattern(1, 7, 4, 3);
            t.pattern(2, 5, 4, 1);
            t.operate(2, 64, 3, 1, 2);
            t.isFromTo(3, 3, 35, 60);
            t.operate(7, 64, 3, 1, 2);
            t.isFromTo(3, 2, 6, 4);
        });
    }

    private static void within(Sentences doc) {
        String words = "within: Whether all numbers that place a has are among those of place b";
        doc.sentence(words + " - a place in itself, and just one number", t -> {
            t.unsigned(1, 4, 6);
            t.answers("4 .. 6 in itself", t.within(1, 1), true);
            t.constant(2, 4);
            t.answers("4 in 4 .. 6", t.within(2, 1), true);
            t.answers("4 .. 6 in 4", t.within(1, 2), false);
            t.constant(2, 6);
            t.answers("6 in 4 .. 6", t.within(2, 1), true);
            t.constant(2, 7);
            t.answers("7 in 4 .. 6", t.within(2, 1), false);
            t.constant(2, 3);
            t.answers("3 in 4 .. 6", t.within(2, 1), false);
            t.any(3, 1);
            t.answers("in all", t.within(1, 3), true);
            t.answers("all in 4 .. 6", t.within(3, 1), false);
            t.answers("all in all", t.within(3, 3), true);
        });
        doc.sentence(words + " - each bound alone", t -> {
            t.unsigned(1, 5, -5);
            t.unsigned(2, 4, -5);
            t.answers("LOW is 1 less", t.within(2, 1), false);
            t.answers("LOW is 1 more", t.within(1, 2), true);
            t.unsigned(2, 5, -4);
            t.answers("HIGH is 1 more", t.within(2, 1), false);
            t.answers("HIGH is 1 less", t.within(1, 2), true);
            t.longs(1, -5, 9);
            t.longs(2, -6, 9);
            t.answers("LEAST is 1 less", t.within(2, 1), false);
            t.answers("LEAST is 1 more", t.within(1, 2), true);
            t.longs(2, -5, 10);
            t.answers("GREATEST is 1 more", t.within(2, 1), false);
            t.answers("GREATEST is 1 less", t.within(1, 2), true);
        });
        doc.sentence(words + " - bits alone", t -> {
            // 4 and 6 lie between 4 and 7, and 5 is missing.
            t.bits(1, 4, 2);
            t.unsigned(2, 4, 6);
            t.answers("4, 6 in 4 .. 6", t.within(1, 2), true);
            t.answers("4 .. 6 in 4, 6", t.within(2, 1), false);
            t.constant(2, 5);
            t.answers("5 in 4, 6", t.within(2, 1), false);
            t.bits(2, 4, 3);
            t.answers("4, 6 in 4 .. 7", t.within(1, 2), true);
            t.bits(1, 0, 10);
            t.bits(2, 0, 11);
            t.answers("fewer open bits in more", t.within(1, 2), true);
            t.answers("more open bits in fewer", t.within(2, 1), false);
        });
        doc.sentence(words + " - a known bit is another one", t -> {
            t.bits(1, 0, 10);
            t.constant(2, 4);
            t.answers("4 in 0, 2, 8, 10", t.within(2, 1), false);
            t.bits(1, 1, 10);
            t.constant(2, 2);
            t.answers("2 in 1, 3, 9, 11", t.within(2, 1), false);
        });
        doc.sentence("within - it changes nothing", t -> {
            t.between(1, true, 3, 12, 7);
            t.between(2, false, -3, 12, 7);
            String before = t.state();
            t.within(1, 2);
            t.within(2, 1);
            t.answers("nothing is changed", before.equals(t.state()), true);
        });
    }

    private static void asked(Sentences doc) {
        doc.sentence("has: Whether a number is one of those that a place has", t -> {
            t.longs(1, -4, 9);
            t.holds(1, -4, 9, 0, -1);
            t.lacks(1, -5, 10, MIN, MAX);
            t.unsigned(2, 9, -4);
            t.holds(2, 9, -4, MIN, MAX);
            t.lacks(2, 8, -3, 0, -1);
            t.bits(3, 8, MIN | 5);
            t.holds(3, 8, 13, MIN | 8, MIN | 13);
            t.lacks(3, 0, 10, 24, MIN, MIN | 10);
            t.holds(0, 0);
            t.lacks(0, 1, MIN);
            t.any(15, 3);
            t.holds(15, 0, -1, MIN, MAX);
        });
        doc.sentence("least: LOW, or LEAST, of a place", t -> {
            t.longs(15, -4, 9);
            t.answers("LOW", t.least(15, true), 0);
            t.answers("LEAST", t.least(15, false), -4);
            t.unsigned(15, 3, MIN);
            t.answers("LOW", t.least(15, true), 3);
            t.answers("LEAST", t.least(15, false), MIN);
            t.answers("LOW of another", t.least(14, true), 0);
        });
        doc.sentence("greatest: HIGH, or GREATEST, of a place", t -> {
            t.longs(15, -4, 9);
            t.answers("HIGH", t.greatest(15, true), -1);
            t.answers("GREATEST", t.greatest(15, false), 9);
            t.unsigned(15, 3, MIN);
            t.answers("HIGH", t.greatest(15, true), MIN);
            t.answers("GREATEST", t.greatest(15, false), MAX);
            t.answers("HIGH of another", t.greatest(14, true), 0);
        });
        doc.sentence("unknown: The bits that are not known", t -> {
            t.pattern(15, 1, MIN | 12, 5);
            t.answers("unknown", t.unknown(15), MIN | 12);
            t.any(15, 0);
            t.answers("unknown of all", t.unknown(15), ALL);
            t.constant(15, -1);
            t.answers("unknown of just one", t.unknown(15), 0);
            t.unsigned(15, 4, 6);
            t.answers("unknown of 4 .. 6", t.unknown(15), 3);
        });
        doc.sentence("witness: The witness of a place", t -> {
            for (int p = 0; p < 16; p++) {
                t.any(p, 100 - p);
            }
            for (int p = 0; p < 16; p++) {
                t.isOfWitness(p, 100 - p);
            }
        });
        doc.sentence("asking changes nothing", t -> {
            t.between(3, true, 3, 12, 7);
            String before = t.state();
            t.has(3, 9);
            t.has(3, 90);
            t.answers("nothing is changed", before.equals(t.state()), true);
        });
        doc.sentence("strays: How many strays there were", t -> t.answers("strays", t.strays(), 0));
    }

    public static void main(String[] args) {
        Sentences doc = new Sentences();
        makings(doc);
        between(doc);
        pattern(doc);
        within(doc);
        asked(doc);
        doc.end();
    }
}

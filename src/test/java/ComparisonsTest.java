/** The sentences on comparisons, refining, branch and decided (promises 12 and 13), at their edges. */
public final class ComparisonsTest {
    private static final long MIN = Trial.MIN;
    private static final long MAX = Trial.MAX;
    private static final long ALL = Trial.ALL;
    private static final int NONE = ValueSieve.NONE;
    private static final int[] OPPOSITES = {1, 0, 5, 4, 3, 2, 9, 8, 7, 6, 11, 10};

    /** Of two numbers, for the comparisons 0 to 11 in turn: y where it is so. */
    private static void soOf(Sentences doc, long v, long w, String due) {
        for (int c = 0; c < 12; c++) {
            int comparison = c;
            boolean so = due.charAt(c) == 'y';
            doc.sentence("branch: whether it is so of their witnesses - " + c + " of " + v + " and " + w, t -> {
                t.any(1, v);
                t.any(2, w);
                t.answers("branch", t.branch(comparison, 1, 2), so);
                t.isOfWitness(1, v);
                t.isOfWitness(2, w);
                t.constant(3, v);
                t.constant(4, w);
                t.answers("decided of just these", t.decided(comparison, 3, 4), so ? 1 : 0);
                t.answers("branch of just these", t.branch(comparison, 3, 4), so);
                t.isJust(3, v);
                t.isJust(4, w);
            });
        }
    }

    private static void comparisons(Sentences doc) {
        soOf(doc, 5, 5, "yn nyny nyny yn".replace(" ", ""));
        soOf(doc, 4, 5, "ny yynn yynn yn".replace(" ", ""));
        soOf(doc, 5, 4, "ny nnyy nnyy yn".replace(" ", ""));
        soOf(doc, 4, 3, "ny nnyy nnyy ny".replace(" ", ""));
        soOf(doc, 0, 0, "yn nyny nyny ny".replace(" ", ""));
        soOf(doc, -1, 1, "ny nnyy yynn yn".replace(" ", ""));
        soOf(doc, 1, -1, "ny yynn nnyy yn".replace(" ", ""));
        soOf(doc, -1, 0, "ny nnyy yynn ny".replace(" ", ""));
        soOf(doc, MIN, MAX, "ny nnyy yynn ny".replace(" ", ""));
        soOf(doc, MAX, MIN, "ny yynn nnyy ny".replace(" ", ""));
        soOf(doc, MIN, MIN, "yn nyny nyny yn".replace(" ", ""));
        soOf(doc, MIN, -1, "ny yynn yynn yn".replace(" ", ""));
        soOf(doc, -1, MIN, "ny nnyy nnyy yn".replace(" ", ""));
        soOf(doc, MAX, 0, "ny nnyy nnyy ny".replace(" ", ""));
        soOf(doc, MAX - 1, MAX, "ny yynn yynn yn".replace(" ", ""));
        soOf(doc, MIN + 1, MIN, "ny nnyy nnyy yn".replace(" ", ""));
        soOf(doc, 1L << 32, 1, "ny nnyy nnyy ny".replace(" ", ""));
    }

    private static void opposites(Sentences doc) {
        long[][] witnesses = {{6, 6}, {5, 6}, {6, 5}, {8, 5}, {-3, 6}, {6, -3}, {0, 7}};
        for (int c = 0; c < 12; c++) {
            int comparison = c;
            int opposite = OPPOSITES[c];
            for (long[] w : witnesses) {
                doc.sentence("Opposites are 0 and 1, 2 and 5, 3 and 4, 6 and 9, 7 and 8, 10 and 11 - "
                        + c + " of " + w[0] + " and " + w[1], t -> {
                    t.between(1, false, -4, 9, w[0]);
                    t.between(2, false, -3, 8, w[1]);
                    t.between(3, false, -4, 9, w[0]);
                    t.between(4, false, -3, 8, w[1]);
                    boolean so = t.branch(comparison, 1, 2);
                    t.answers("branch by the opposite", t.branch(opposite, 3, 4), !so);
                    t.is(1, t.least(3, true), t.greatest(3, true), t.least(3, false), t.greatest(3, false), t.unknown(3));
                    t.is(2, t.least(4, true), t.greatest(4, true), t.least(4, false), t.greatest(4, false), t.unknown(4));
                });
            }
        }
    }

    private static void same(Sentences doc) {
        String words = "TO REFINE by 0: each gets all sayings of both";
        doc.sentence(words + " - bits", t -> {
            t.pattern(1, 1, ~3L, 5);
            t.pattern(2, 4, ~12L, 5);
            t.answers("branch", t.branch(0, 1, 2), true);
            t.is(1, 5, -11, MIN | 5, MAX - 10, ~15L);
            t.is(2, 5, -11, MIN | 5, MAX - 10, ~15L);
        });
        doc.sentence(words + " - LOW and HIGH", t -> {
            t.between(1, true, 3, MIN + 9, 7);
            t.between(2, true, 5, MIN + 11, 7);
            t.answers("branch", t.branch(0, 1, 2), true);
            t.is(1, 5, MIN + 9, MIN, MAX, ALL);
            t.is(2, 5, MIN + 9, MIN, MAX, ALL);
            t.between(1, true, 4, MIN + 10, 7);
            t.answers("branch", t.branch(0, 1, 2), true);
            t.is(1, 5, MIN + 9, MIN, MAX, ALL);
            t.is(2, 5, MIN + 9, MIN, MAX, ALL);
        });
        doc.sentence(words + " - LEAST and GREATEST", t -> {
            t.between(1, false, -5, 9, 7);
            t.between(2, false, -3, 11, 7);
            t.answers("branch", t.branch(0, 1, 2), true);
            t.is(1, 0, ALL, -3, 9, ALL);
            t.is(2, 0, ALL, -3, 9, ALL);
            t.between(1, false, -4, 10, 7);
            t.answers("branch", t.branch(0, 1, 2), true);
            t.is(1, 0, ALL, -3, 9, ALL);
            t.is(2, 0, ALL, -3, 9, ALL);
        });
        doc.sentence(words + " - one number is left", t -> {
            t.between(1, true, 3, 7, 7);
            t.between(2, true, 7, 9, 7);
            t.answers("branch", t.branch(0, 1, 2), true);
            t.isJust(1, 7);
            t.isJust(2, 7);
        });
    }

    /** X's numbers as longs or unsigned, Y just one number: what is left of X once they are not the same. */
    private static void parted(Sentences doc, String edge, boolean unsigned, long[] x, long y, long[] due) {
        String words = "TO REFINE by 1: if Y is single, its number is no more X's LOW, HIGH, LEAST or GREATEST:"
                + " such a bound goes in by 1";
        doc.sentence(words + " - " + edge, t -> {
            t.between(1, unsigned, x[0], x[1], x[2]);
            t.constant(2, y);
            t.answers("branch", t.branch(1, 1, 2), true);
            t.is(1, due[0], due[1], due[2], due[3], due[4]);
            t.isOfWitness(1, x[2]);
            t.isJust(2, y);
        });
        doc.sentence("TO REFINE by 1: likewise Y by X - " + edge, t -> {
            t.between(1, unsigned, x[0], x[1], x[2]);
            t.constant(2, y);
            t.answers("branch", t.branch(0, 2, 1), false);
            t.is(1, due[0], due[1], due[2], due[3], due[4]);
            t.isJust(2, y);
        });
    }

    private static void other(Sentences doc) {
        long[] all = {0, ALL, 5};
        long[] longs = {-3, 7, 5};
        long[] few = {4, 9, 6};
        parted(doc, "LOW is 0", true, all, 0, new long[] {1, ALL, MIN, MAX, ALL});
        parted(doc, "HIGH is 2^64 - 1", true, all, -1, new long[] {0, -2, MIN, MAX, ALL});
        parted(doc, "LEAST is -2^63", true, all, MIN, new long[] {0, ALL, MIN + 1, MAX, ALL});
        parted(doc, "GREATEST is 2^63 - 1", true, all, MAX, new long[] {0, ALL, MIN, MAX - 1, ALL});
        parted(doc, "a number inside", true, all, 77, new long[] {0, ALL, MIN, MAX, ALL});
        parted(doc, "LOW alone", false, longs, 0, new long[] {1, ALL, -3, 7, ALL});
        parted(doc, "HIGH alone", false, longs, -1, new long[] {0, -2, -3, 7, ALL});
        parted(doc, "LEAST alone", false, longs, -3, new long[] {0, ALL, -2, 7, ALL});
        parted(doc, "GREATEST alone", false, longs, 7, new long[] {0, ALL, -3, 6, ALL});
        parted(doc, "LOW and LEAST", true, few, 4, new long[] {5, 9, 5, 9, 15});
        parted(doc, "HIGH and GREATEST", true, few, 9, new long[] {4, 8, 4, 8, 15});
        parted(doc, "next to LOW", true, few, 5, new long[] {4, 9, 4, 9, 15});
        parted(doc, "next to HIGH", true, few, 8, new long[] {4, 9, 4, 9, 15});
        parted(doc, "below LOW", true, few, 3, new long[] {4, 9, 4, 9, 15});
        parted(doc, "above HIGH", true, few, 10, new long[] {4, 9, 4, 9, 15});
        parted(doc, "two numbers, the first goes", true, new long[] {4, 5, 5}, 4, new long[] {5, 5, 5, 5, 0});
        parted(doc, "two numbers, the second goes", true, new long[] {4, 5, 4}, 5, new long[] {4, 4, 4, 4, 0});
        parted(doc, "0 and -1, 0 goes", false, new long[] {-1, 0, -1}, 0, new long[] {-1, -1, -1, -1, 0});
        parted(doc, "0 and -1, -1 goes", false, new long[] {-1, 0, 0}, -1, new long[] {0, 0, 0, 0, 0});
        parted(doc, "X is another number", true, new long[] {4, 4, 4}, 5, new long[] {4, 4, 4, 4, 0});
        doc.sentence("TO REFINE by 1: such a bound goes in by 1 - and on to the next number", t -> {
            t.pattern(1, 1, 10, 11);
            t.constant(2, 1);
            t.branch(1, 1, 2);
            t.isFromTo(1, 3, 11, 10);
            t.constant(2, 3);
            t.branch(1, 1, 2);
            t.isFromTo(1, 9, 11, 2);
            t.constant(2, 9);
            t.branch(1, 1, 2);
            t.isJust(1, 11);
        });
        doc.sentence("TO REFINE by 1: if Y is single - neither is: nothing is told", t -> {
            t.between(1, true, 4, 9, 4);
            t.between(2, true, 4, 5, 5);
            t.answers("branch", t.branch(1, 1, 2), true);
            t.isFromTo(1, 4, 9, 15);
            t.isFromTo(2, 4, 5, 1);
            t.answers("decided", t.decided(1, 1, 2), NONE);
        });
        doc.sentence("TO REFINE by 1: it is nothing if X is that number, too", t -> {
            for (long v : new long[] {0, 7, -1, MIN, MAX}) {
                t.constant(1, v);
                t.unsigned(2, v, v);
                t.answers("decided(1)", t.decided(1, 1, 2), 0);
                t.answers("decided(0)", t.decided(0, 1, 2), 1);
                t.answers("branch(1)", t.branch(1, 1, 2), false);
                t.isJust(1, v);
                t.isJust(2, v);
            }
        });
    }

    /** X is c than Y; the same told from Y's side must come out alike. */
    private static void ordered(Sentences doc, int c, String words, boolean unsigned, long[] x, long[] y, long[] dueX,
            long[] dueY) {
        int[] exchanged = {0, 1, 4, 5, 2, 3, 8, 9, 6, 7};
        doc.sentence(words, t -> {
            t.between(1, unsigned, x[0], x[1], x[2]);
            t.between(2, unsigned, y[0], y[1], y[2]);
            t.answers("branch", t.branch(c, 1, 2), true);
            bounds(t, 1, unsigned, dueX);
            bounds(t, 2, unsigned, dueY);
            t.isOfWitness(1, x[2]);
            t.isOfWitness(2, y[2]);
        });
        doc.sentence("4 and 5 with X and Y exchanged, 8 and 9 likewise: " + words, t -> {
            t.between(1, unsigned, x[0], x[1], x[2]);
            t.between(2, unsigned, y[0], y[1], y[2]);
            t.answers("branch", t.branch(exchanged[c], 2, 1), true);
            bounds(t, 1, unsigned, dueX);
            bounds(t, 2, unsigned, dueY);
        });
        doc.sentence("else by its opposite: " + words, t -> {
            t.between(1, unsigned, x[0], x[1], x[2]);
            t.between(2, unsigned, y[0], y[1], y[2]);
            t.answers("branch", t.branch(OPPOSITES[c], 1, 2), false);
            bounds(t, 1, unsigned, dueX);
            bounds(t, 2, unsigned, dueY);
        });
    }

    private static void bounds(Trial t, int place, boolean unsigned, long[] due) {
        t.answers("the least of " + place, t.least(place, unsigned), due[0]);
        t.answers("the greatest of " + place, t.greatest(place, unsigned), due[1]);
        // Where a range crosses over in the other order, comparing in this one must not touch that one.
        if (t.least(place, unsigned) < 0 != t.greatest(place, unsigned) < 0) {
            t.answers("the other least of " + place, t.least(place, !unsigned), unsigned ? MIN : 0);
            t.answers("the other greatest of " + place, t.greatest(place, !unsigned), unsigned ? MAX : ALL);
        }
    }

    private static void orderUnsigned(Sentences doc) {
        String less = "TO REFINE by 2: X's HIGH is at most HIGH' - 1, Y's LOW at least LOW + 1";
        ordered(doc, 2, less, true, new long[] {3, 12, 3}, new long[] {0, 9, 9}, new long[] {3, 8}, new long[] {4, 9});
        ordered(doc, 2, less + " - both were so", true, new long[] {3, 8, 3}, new long[] {4, 9, 9}, new long[] {3, 8},
                new long[] {4, 9});
        ordered(doc, 2, less + " - both were so by far", true, new long[] {3, MIN + 5, 3}, new long[] {MAX, -1, MAX},
                new long[] {3, MIN + 5}, new long[] {MAX, -1});
        ordered(doc, 2, less + " - HIGH was HIGH', LOW' was LOW", true, new long[] {3, 9, 3}, new long[] {3, 9, 9},
                new long[] {3, 8}, new long[] {4, 9});
        ordered(doc, 2, less + " - HIGH' is 1", true, new long[] {0, 9, 0}, new long[] {0, 1, 1}, new long[] {0, 0},
                new long[] {1, 1});
        ordered(doc, 2, less + " - LOW is 2^64 - 2", true, new long[] {-2, -1, -2}, new long[] {3, -1, -1},
                new long[] {-2, -2}, new long[] {-1, -1});
        ordered(doc, 2, less + " - all of both", true, new long[] {0, -1, 0}, new long[] {0, -1, -1}, new long[] {0, -2},
                new long[] {1, -1});
        ordered(doc, 2, less + " - about 2^63", true, new long[] {MAX, -1, MAX}, new long[] {0, MIN + 1, MIN},
                new long[] {MAX, MIN}, new long[] {MIN, MIN + 1});
        String notMore = "TO REFINE by 3: X's HIGH is at most HIGH', Y's LOW at least LOW";
        ordered(doc, 3, notMore, true, new long[] {3, 12, 9}, new long[] {0, 9, 9}, new long[] {3, 9}, new long[] {3, 9});
        ordered(doc, 3, notMore + " - both were so", true, new long[] {3, 8, 3}, new long[] {4, 9, 9}, new long[] {3, 8},
                new long[] {4, 9});
        ordered(doc, 3, notMore + " - both were so by far", true, new long[] {3, MIN + 5, 3}, new long[] {MAX, -1, MAX},
                new long[] {3, MIN + 5}, new long[] {MAX, -1});
        ordered(doc, 3, notMore + " - HIGH' is 0", true, new long[] {0, 9, 0}, new long[] {0, 0, 0}, new long[] {0, 0},
                new long[] {0, 0});
        ordered(doc, 3, notMore + " - LOW is 2^64 - 1", true, new long[] {-1, -1, -1}, new long[] {3, -1, -1},
                new long[] {-1, -1}, new long[] {-1, -1});
        ordered(doc, 3, notMore + " - all of both", true, new long[] {0, -1, 0}, new long[] {0, -1, 5},
                new long[] {0, -1}, new long[] {0, -1});
        ordered(doc, 3, notMore + " - about 2^63", true, new long[] {MAX, -1, MAX}, new long[] {0, MIN, MIN},
                new long[] {MAX, MIN}, new long[] {MAX, MIN});
    }

    private static void orderLongs(Sentences doc) {
        String less = "TO REFINE by 6 likewise with LEAST and GREATEST";
        ordered(doc, 6, less, false, new long[] {-3, 12, -3}, new long[] {-5, 9, 9}, new long[] {-3, 8},
                new long[] {-2, 9});
        ordered(doc, 6, less + " - both were so", false, new long[] {-3, 8, 3}, new long[] {-2, 9, 9},
                new long[] {-3, 8}, new long[] {-2, 9});
        ordered(doc, 6, less + " - both were so by far", false, new long[] {-9, 5, 3}, new long[] {-2, 20, 9},
                new long[] {-9, 5}, new long[] {-2, 20});
        ordered(doc, 6, less + " - GREATEST was GREATEST', LEAST' was LEAST", false, new long[] {-3, 9, -3},
                new long[] {-3, 9, 9}, new long[] {-3, 8}, new long[] {-2, 9});
        ordered(doc, 6, less + " - GREATEST' is -2^63 + 1", false, new long[] {MIN, 9, MIN},
                new long[] {MIN, MIN + 1, MIN + 1}, new long[] {MIN, MIN}, new long[] {MIN + 1, MIN + 1});
        ordered(doc, 6, less + " - LEAST is 2^63 - 2", false, new long[] {MAX - 1, MAX, MAX - 1}, new long[] {3, MAX, MAX},
                new long[] {MAX - 1, MAX - 1}, new long[] {MAX, MAX});
        ordered(doc, 6, less + " - all of both", false, new long[] {MIN, MAX, MIN}, new long[] {MIN, MAX, MAX},
                new long[] {MIN, MAX - 1}, new long[] {MIN + 1, MAX});
        ordered(doc, 6, less + " - about 0", false, new long[] {-1, 9, -1}, new long[] {-9, 0, 0}, new long[] {-1, -1},
                new long[] {0, 0});
        String notMore = "TO REFINE by 7 likewise with LEAST and GREATEST";
        ordered(doc, 7, notMore, false, new long[] {-3, 12, 9}, new long[] {-5, 9, 9}, new long[] {-3, 9},
                new long[] {-3, 9});
        ordered(doc, 7, notMore + " - both were so", false, new long[] {-3, 8, 3}, new long[] {-2, 9, 9},
                new long[] {-3, 8}, new long[] {-2, 9});
        ordered(doc, 7, notMore + " - both were so by far", false, new long[] {-9, 5, 3}, new long[] {-2, 20, 9},
                new long[] {-9, 5}, new long[] {-2, 20});
        ordered(doc, 7, notMore + " - GREATEST' is -2^63", false, new long[] {MIN, 9, MIN}, new long[] {MIN, MIN, MIN},
                new long[] {MIN, MIN}, new long[] {MIN, MIN});
        ordered(doc, 7, notMore + " - LEAST is 2^63 - 1", false, new long[] {MAX, MAX, MAX}, new long[] {3, MAX, MAX},
                new long[] {MAX, MAX}, new long[] {MAX, MAX});
        ordered(doc, 7, notMore + " - all of both", false, new long[] {MIN, MAX, 5}, new long[] {MIN, MAX, 5},
                new long[] {MIN, MAX}, new long[] {MIN, MAX});
        ordered(doc, 7, notMore + " - about 0", false, new long[] {-1, 9, -1}, new long[] {-9, 0, 0}, new long[] {-1, 0},
                new long[] {-1, 0});
    }

    private static void orderNothing(Sentences doc) {
        doc.sentence("TO REFINE by 2: nothing, if HIGH' is 0", t -> {
            t.any(1, 5);
            t.constant(2, 0);
            t.answers("decided(2)", t.decided(2, 1, 2), 0);
            t.answers("decided(5)", t.decided(5, 1, 2), 1);
            t.answers("decided(4), exchanged", t.decided(4, 2, 1), 0);
            t.answers("decided(3), exchanged", t.decided(3, 2, 1), 1);
            t.unsigned(2, 0, 1);
            t.answers("decided(2)", t.decided(2, 1, 2), NONE);
            t.answers("decided(3)", t.decided(3, 1, 2), NONE);
        });
        doc.sentence("TO REFINE by 2: nothing, if LOW is 2^64 - 1", t -> {
            t.constant(1, -1);
            t.any(2, 5);
            t.answers("decided(2)", t.decided(2, 1, 2), 0);
            t.answers("decided(5)", t.decided(5, 1, 2), 1);
            t.answers("decided(4), exchanged", t.decided(4, 2, 1), 0);
            t.answers("decided(3), exchanged", t.decided(3, 2, 1), 1);
            t.unsigned(1, -2, -1);
            t.answers("decided(2)", t.decided(2, 1, 2), NONE);
        });
        doc.sentence("TO REFINE by 6 likewise - nothing, if GREATEST' is -2^63", t -> {
            t.any(1, 5);
            t.constant(2, MIN);
            t.answers("decided(6)", t.decided(6, 1, 2), 0);
            t.answers("decided(9)", t.decided(9, 1, 2), 1);
            t.answers("decided(8), exchanged", t.decided(8, 2, 1), 0);
            t.answers("decided(7), exchanged", t.decided(7, 2, 1), 1);
            t.longs(2, MIN, MIN + 1);
            t.answers("decided(6)", t.decided(6, 1, 2), NONE);
            t.answers("decided(7)", t.decided(7, 1, 2), NONE);
        });
        doc.sentence("TO REFINE by 6 likewise - nothing, if LEAST is 2^63 - 1", t -> {
            t.constant(1, MAX);
            t.any(2, 5);
            t.answers("decided(6)", t.decided(6, 1, 2), 0);
            t.answers("decided(9)", t.decided(9, 1, 2), 1);
            t.answers("decided(8), exchanged", t.decided(8, 2, 1), 0);
            t.answers("decided(7), exchanged", t.decided(7, 2, 1), 1);
            t.longs(1, MAX - 1, MAX);
            t.answers("decided(6)", t.decided(6, 1, 2), NONE);
        });
    }

    /** The edge of one order is met by a bound of the other order. */
    private static void ordersApart(Sentences doc) {
        doc.sentence("TO REFINE by 2: nothing, if HIGH' is 0 - not if GREATEST' is", t -> {
            t.any(1, 5);
            t.between(2, false, -1, 0, -1);
            t.answers("branch(2)", t.branch(2, 1, 2), true);
            t.is(1, 0, -2, MIN, MAX, ALL);
            t.isJust(2, -1);
        });
        doc.sentence("TO REFINE by 2: nothing, if LOW is 2^64 - 1 - not if LEAST is -1", t -> {
            t.between(1, false, -1, 5, 3);
            t.any(2, 7);
            t.answers("branch(2)", t.branch(2, 1, 2), true);
            t.isFromTo(1, 0, 5, 7);
            t.is(2, 1, ALL, MIN, MAX, ALL);
        });
        doc.sentence("TO REFINE by 6 likewise - not nothing, if HIGH' is 2^63", t -> {
            t.any(1, 5);
            t.between(2, true, 3, MIN, 8);
            t.answers("branch(6)", t.branch(6, 1, 2), true);
            t.is(1, 0, ALL, MIN, MAX - 1, ALL);
            t.isFromTo(2, 3, MAX, MAX);
        });
        doc.sentence("TO REFINE by 6 likewise - not nothing, if LOW is 2^63 - 1", t -> {
            t.between(1, true, MAX, MIN + 5, MIN);
            t.any(2, 3);
            t.answers("branch(6)", t.branch(6, 1, 2), true);
            t.isFromTo(1, MIN, MIN + 5, 7);
            t.is(2, 0, ALL, MIN + 1, MAX, ALL);
        });
    }

    private static void bits(Sentences doc) {
        doc.sentence("TO REFINE by 10: nothing, if no bit is in both 1 or unknown", t -> {
            t.bits(1, 0, 0xF0);
            t.bits(2, 0, 0x0F);
            t.answers("decided(10)", t.decided(10, 1, 2), 0);
            t.answers("decided(11)", t.decided(11, 1, 2), 1);
            t.bits(2, 0, 0x1F);
            t.answers("decided(10), one bit is unknown in both", t.decided(10, 1, 2), NONE);
            t.bits(2, 0x10, 0);
            t.answers("decided(10), one bit is unknown and 1", t.decided(10, 1, 2), NONE);
            t.answers("decided(10), one bit is 1 and unknown", t.decided(10, 2, 1), NONE);
            t.bits(1, 0x10, 0xE0);
            t.answers("decided(10), one bit is 1 in both", t.decided(10, 1, 2), 1);
            t.constant(1, 0);
            t.any(2, 5);
            t.answers("decided(10), of just 0", t.decided(10, 1, 2), 0);
            t.answers("decided(10), of just 0", t.decided(10, 2, 1), 0);
        });
        for (int bit : new int[] {0, 3, 31, 32, 62, 63}) {
            long weight = 1L << bit;
            doc.sentence("TO REFINE by 10: if Y is single with just one bit 1, that bit is 1 in X - bit " + bit, t -> {
                t.pattern(1, 0, weight | 4, weight);
                t.constant(2, weight);
                t.answers("branch(10)", t.branch(10, 1, 2), true);
                t.isFromTo(1, weight, weight | 4, 4);
                t.isJust(2, weight);
                t.answers("branch(11)", t.branch(11, 2, 1), false);
            });
            doc.sentence("TO REFINE by 10: likewise Y by X - bit " + bit, t -> {
                t.pattern(1, 0, weight | 4, weight);
                t.constant(2, weight);
                t.answers("branch(11)", t.branch(11, 2, 1), false);
                t.isFromTo(1, weight, weight | 4, 4);
                t.isJust(2, weight);
            });
        }
        doc.sentence("TO REFINE by 10: just one bit 1 - two bits tell nothing", t -> {
            t.between(1, true, 0, 12, 9);
            t.constant(2, 12);
            t.answers("branch(10)", t.branch(10, 1, 2), true);
            t.isFromTo(1, 0, 12, 15);
            t.answers("branch(10)", t.branch(10, 2, 1), true);
            t.isFromTo(1, 0, 12, 15);
        });
        doc.sentence("TO REFINE by 10: if Y is single - 0 and 8 are two", t -> {
            t.between(1, true, 0, 12, 9);
            t.pattern(2, 0, 8, 8);
            t.answers("branch(10)", t.branch(10, 1, 2), true);
            t.isFromTo(1, 0, 12, 15);
            t.isFromTo(2, 0, 8, 8);
        });
        doc.sentence("TO REFINE by 10: that bit is 1 in X - and the bounds follow", t -> {
            t.between(1, true, 3, 12, 9);
            t.constant(2, 8);
            t.answers("branch(10)", t.branch(10, 1, 2), true);
            t.isFromTo(1, 8, 12, 7);
        });
    }

    private static void noBits(Sentences doc) {
        doc.sentence("TO REFINE by 11: nothing, if a bit is known to be 1 in both", t -> {
            t.bits(1, 8, 7);
            t.bits(2, 24, 7);
            t.answers("decided(11)", t.decided(11, 1, 2), 0);
            t.answers("decided(10)", t.decided(10, 1, 2), 1);
            t.bits(2, 16, 15);
            t.answers("decided(11), known in one", t.decided(11, 1, 2), NONE);
            t.answers("decided(11), known in one", t.decided(11, 2, 1), NONE);
            t.bits(1, MIN, 7);
            t.bits(2, MIN, MAX);
            t.answers("decided(11), bit 63", t.decided(11, 1, 2), 0);
        });
        doc.sentence("TO REFINE by 11: if Y is single, its bits that are 1 are 0 in X", t -> {
            t.between(1, true, 0, 12, 2);
            t.constant(2, 12);
            t.answers("branch(11)", t.branch(11, 1, 2), true);
            t.isFromTo(1, 0, 3, 3);
            t.isJust(2, 12);
            t.any(1, 0);
            t.constant(2, -1);
            t.answers("branch(11)", t.branch(11, 1, 2), true);
            t.isJust(1, 0);
            t.any(1, 5);
            t.constant(2, MIN);
            t.answers("branch(11)", t.branch(11, 1, 2), true);
            t.isFromTo(1, 0, MAX, MAX);
            t.any(1, 5);
            t.constant(2, 0);
            t.answers("branch(11)", t.branch(11, 1, 2), true);
            t.isAll(1);
        });
        doc.sentence("TO REFINE by 11: likewise Y by X", t -> {
            t.between(1, true, 0, 12, 2);
            t.constant(2, 12);
            t.answers("branch(10)", t.branch(10, 2, 1), false);
            t.isFromTo(1, 0, 3, 3);
            t.isJust(2, 12);
            t.any(1, 0);
            t.constant(2, -1);
            t.answers("branch(11)", t.branch(11, 2, 1), true);
            t.isJust(1, 0);
        });
        doc.sentence("TO REFINE by 11: if Y is single - it is not", t -> {
            t.between(1, true, 0, 12, 3);
            t.between(2, true, 8, 12, 12);
            t.answers("branch(11)", t.branch(11, 1, 2), true);
            t.isFromTo(1, 0, 12, 15);
            t.isFromTo(2, 8, 12, 7);
        });
    }

    /** What is decided of places 1 and 2, for the comparisons 0 to 11 in turn: 0, 1, or - for NONE. */
    private static void decidedAre(Trial t, String due) {
        for (int c = 0; c < 12; c++) {
            char one = due.charAt(c);
            t.answers("decided(" + c + ")", t.decided(c, 1, 2), one == '-' ? NONE : one - '0');
        }
    }

    private static void decided(Sentences doc) {
        String words = "decided: 0 if it can't be, 1 if its opposite can't be, else NONE";
        doc.sentence(words + " - 1 .. 4 and 5 .. 9", t -> {
            t.unsigned(1, 1, 4);
            t.unsigned(2, 5, 9);
            decidedAre(t, "01" + "1100" + "1100" + "--");
        });
        doc.sentence(words + " - 1 .. 4 and 4 .. 9", t -> {
            t.unsigned(1, 1, 4);
            t.unsigned(2, 4, 9);
            decidedAre(t, "--" + "-10-" + "-10-" + "--");
        });
        doc.sentence(words + " - 1 .. 5 and 4 .. 9", t -> {
            t.unsigned(1, 1, 5);
            t.unsigned(2, 4, 9);
            decidedAre(t, "--" + "----" + "----" + "--");
        });
        doc.sentence(words + " - 4 .. 9 and 1 .. 4", t -> {
            t.unsigned(1, 4, 9);
            t.unsigned(2, 1, 4);
            decidedAre(t, "--" + "0--1" + "0--1" + "--");
        });
        doc.sentence(words + " - 5 .. 9 and 1 .. 4", t -> {
            t.unsigned(1, 5, 9);
            t.unsigned(2, 1, 4);
            decidedAre(t, "01" + "0011" + "0011" + "--");
        });
        doc.sentence(words + " - the orders differ: -4 .. -1 and 4", t -> {
            t.longs(1, -4, -1);
            t.constant(2, 4);
            decidedAre(t, "01" + "0011" + "1100" + "10");
        });
        doc.sentence(words + " - all, and 0", t -> {
            t.any(1, 3);
            t.constant(2, 0);
            decidedAre(t, "--" + "0--1" + "----" + "01");
        });
        doc.sentence(words + " - all, and 2^64 - 1", t -> {
            t.any(1, 3);
            t.constant(2, -1);
            decidedAre(t, "--" + "-10-" + "----" + "--");
        });
        doc.sentence(words + " - all, and 2^63 - 1", t -> {
            t.any(1, 3);
            t.constant(2, MAX);
            decidedAre(t, "--" + "----" + "-10-" + "--");
        });
        doc.sentence(words + " - all, and -2^63", t -> {
            t.any(1, 3);
            t.constant(2, MIN);
            decidedAre(t, "--" + "----" + "0--1" + "--");
        });
        doc.sentence("decided - it changes nothing", t -> {
            t.between(1, true, 1, 5, 3);
            t.between(2, true, 4, 9, 6);
            String before = t.state();
            for (int c = 0; c < 12; c++) {
                t.decided(c, 1, 2);
                t.decided(c, 2, 1);
            }
            t.answers("nothing is changed", before.equals(t.state()), true);
        });
    }

    private static void cantBe(Sentences doc) {
        doc.sentence("A comparison CAN'T BE if one of both becomes nothing - X alone does, or Y alone", t -> {
            // Only 8 has bit 3 and none of bits 0 to 2; 7 itself is not refined by 9 .. 14.
            t.unsigned(1, 9, 14);
            t.constant(2, 7);
            t.answers("decided(11)", t.decided(11, 1, 2), 0);
            t.answers("decided(11), exchanged", t.decided(11, 2, 1), 0);
            t.answers("decided(10)", t.decided(10, 1, 2), 1);
            t.answers("decided(10), exchanged", t.decided(10, 2, 1), 1);
            t.unsigned(1, 8, 14);
            t.answers("decided(11), with 8", t.decided(11, 1, 2), NONE);
        });
        doc.sentence("A comparison CAN'T BE if one of both becomes nothing - both do", t -> {
            t.unsigned(1, 5, 6);
            t.constant(2, 5);
            t.answers("decided(2)", t.decided(2, 1, 2), 0);
            t.answers("decided(4)", t.decided(4, 2, 1), 0);
            t.answers("decided(3)", t.decided(3, 1, 2), NONE);
            t.answers("decided(5)", t.decided(5, 2, 1), NONE);
        });
        doc.sentence("branch: both are refined by it - any two places", t -> {
            for (int p = 0; p < 16; p++) {
                int a = p;
                int b = (p + 7) % 16;
                t.between(a, true, 3, 12, 3);
                t.between(b, true, 0, 9, 9);
                t.answers("branch", t.branch(2, a, b), true);
                t.answers("X of " + a, t.greatest(a, true), 8);
                t.answers("Y of " + b, t.least(b, true), 4);
                t.answers("X's witness", t.witness(a), 3);
                t.answers("Y's witness", t.witness(b), 9);
            }
        });
        doc.sentence("branch: both are refined - and no other place", t -> {
            for (int p = 0; p < 16; p++) {
                t.between(p, true, 0, 9, 5);
            }
            t.constant(4, 5);
            t.branch(0, 4, 11);
            for (int p = 0; p < 16; p++) {
                if (p != 4 && p != 11) {
                    t.isFromTo(p, 0, 9, 15);
                }
            }
            t.isJust(4, 5);
            t.isJust(11, 5);
        });
    }

    public static void main(String[] args) {
        Sentences doc = new Sentences();
        comparisons(doc);
        opposites(doc);
        same(doc);
        other(doc);
        orderUnsigned(doc);
        orderLongs(doc);
        orderNothing(doc);
        ordersApart(doc);
        bits(doc);
        noBits(doc);
        decided(doc);
        cantBe(doc);
        doc.end();
    }
}

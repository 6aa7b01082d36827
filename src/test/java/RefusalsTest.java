import java.util.function.Consumer;

/** Every call that is refused: which exception it throws, which of several comes first, and that it changes nothing. */
public final class RefusalsTest {
    private static final long MIN = Trial.MIN;
    private static final long MAX = Trial.MAX;
    private static final int[] NO_PLACES = {-1, 16, 17, 31, 32, -16, Integer.MIN_VALUE, Integer.MAX_VALUE};
    private static final Class<?> NO_PLACE = IndexOutOfBoundsException.class;
    private static final Class<?> NOT_AS_SAID = IllegalArgumentException.class;

    /** Places that all differ, so that a wrong write is seen. */
    private static void fill(Trial t) {
        for (int p = 0; p < 16; p++) {
            t.between(p, p % 2 == 0, p, 3L * p + 1, p + 1);
        }
    }

    private static void refused(Sentences doc, String words, Class<?> due, Consumer<Trial> call) {
        doc.sentence(words, t -> {
            fill(t);
            String before = t.state();
            Class<?> got = null;
            try {
                call.accept(t);
            } catch (RuntimeException e) {
                got = e.getClass();
            }
            if (got != due) {
                t.fault("threw " + got + ", due is " + due);
            }
            if (!before.equals(t.state())) {
                t.fault("it changed something, though it is refused");
            }
        });
    }

    private static void noPlace(Sentences doc, String call, Consumer<Trial> refusedCall) {
        refused(doc, "IndexOutOfBoundsException: there is no such place - " + call, NO_PLACE, refusedCall);
    }

    private static void noPlaceFirst(Sentences doc, String call, Consumer<Trial> refusedCall) {
        refused(doc, "of several the one named first is thrown - " + call, NO_PLACE, refusedCall);
    }

    private static void notAsSaid(Sentences doc, String call, Consumer<Trial> refusedCall) {
        refused(doc, "IllegalArgumentException: something else is not as said - " + call, NOT_AS_SAID, refusedCall);
    }

    private static void places(Sentences doc) {
        for (int p : NO_PLACES) {
            String of = " of " + p;
            noPlace(doc, "any" + of, t -> t.any(p, 0));
            noPlace(doc, "constant" + of, t -> t.constant(p, 5));
            noPlace(doc, "between" + of, t -> t.between(p, true, 1, 4, 2));
            noPlace(doc, "pattern" + of, t -> t.pattern(p, 8, 7, 9));
            noPlace(doc, "operate to d" + of, t -> t.operate(0, 64, p, 2, 3));
            noPlace(doc, "operate on a" + of, t -> t.operate(0, 64, 1, p, 3));
            noPlace(doc, "operate on b" + of, t -> t.operate(0, 64, 1, 2, p));
            noPlace(doc, "operate of 32 bits to d" + of, t -> t.operate(10, 32, p, 2, 3));
            noPlace(doc, "operate of 32 bits on a" + of, t -> t.operate(10, 32, 1, p, 3));
            noPlace(doc, "operate of 32 bits on b" + of, t -> t.operate(10, 32, 1, 2, p));
            noPlace(doc, "operate on a, which MOVE does not look at," + of, t -> t.operate(11, 64, 1, p, 3));
            noPlace(doc, "operate of 32 bits on a, which MOVE does not look at," + of, t -> t.operate(11, 32, 1, p, 3));
            noPlace(doc, "operate, MOVE to d" + of, t -> t.operate(11, 64, p, 2, 3));
            noPlace(doc, "operate, MOVE of b" + of, t -> t.operate(11, 64, 1, 2, p));
            noPlace(doc, "cut to d" + of, t -> t.cut(p, 2, 8));
            noPlace(doc, "cut of a" + of, t -> t.cut(1, p, 8));
            noPlace(doc, "cut to 64 bits, d" + of, t -> t.cut(p, 2, 64));
            noPlace(doc, "cut to 64 bits, a" + of, t -> t.cut(1, p, 64));
            noPlace(doc, "extend to d" + of, t -> t.extend(p, 2, 8));
            noPlace(doc, "extend of a" + of, t -> t.extend(1, p, 8));
            noPlace(doc, "swap to d" + of, t -> t.swap(p, 2, 16));
            noPlace(doc, "swap of a" + of, t -> t.swap(1, p, 16));
            noPlace(doc, "join to d" + of, t -> t.join(p, 2, 3, true));
            noPlace(doc, "join of a" + of, t -> t.join(1, p, 3, true));
            noPlace(doc, "join of a, whose witness is not taken," + of, t -> t.join(1, p, 3, false));
            noPlace(doc, "join of b" + of, t -> t.join(1, 2, p, false));
            noPlace(doc, "join of b, whose witness is not taken," + of, t -> t.join(1, 2, p, true));
            noPlace(doc, "widen to d" + of, t -> t.widen(p, 2, 3));
            noPlace(doc, "widen of a" + of, t -> t.widen(1, p, 3));
            noPlace(doc, "widen of b" + of, t -> t.widen(1, 2, p));
            noPlace(doc, "branch of a" + of, t -> t.branch(0, p, 3));
            noPlace(doc, "branch of b" + of, t -> t.branch(0, 2, p));
            noPlace(doc, "decided of a" + of, t -> t.decided(0, p, 3));
            noPlace(doc, "decided of b" + of, t -> t.decided(0, 2, p));
            noPlace(doc, "within of a" + of, t -> t.within(p, 3));
            noPlace(doc, "within of b" + of, t -> t.within(2, p));
            noPlace(doc, "within of both" + of, t -> t.within(p, p));
            noPlace(doc, "has" + of, t -> t.has(p, 0));
            noPlace(doc, "least, unsigned," + of, t -> t.least(p, true));
            noPlace(doc, "least as a long" + of, t -> t.least(p, false));
            noPlace(doc, "greatest, unsigned," + of, t -> t.greatest(p, true));
            noPlace(doc, "greatest as a long" + of, t -> t.greatest(p, false));
            noPlace(doc, "unknown" + of, t -> t.unknown(p));
            noPlace(doc, "witness" + of, t -> t.witness(p));
        }
    }

    private static void first(Sentences doc) {
        for (int p : new int[] {-1, 16}) {
            String of = " of " + p;
            noPlaceFirst(doc, "between" + of + ", without the witness", t -> t.between(p, true, 1, 4, 5));
            noPlaceFirst(doc, "between" + of + ", without a number", t -> t.between(p, false, 4, 1, 2));
            noPlaceFirst(doc, "pattern" + of + ", without the witness", t -> t.pattern(p, 8, 7, 0));
            noPlaceFirst(doc, "operate, no operation, d" + of, t -> t.operate(12, 64, p, 2, 3));
            noPlaceFirst(doc, "operate, no operation, a" + of, t -> t.operate(-1, 64, 1, p, 3));
            noPlaceFirst(doc, "operate, no operation, b" + of, t -> t.operate(12, 64, 1, 2, p));
            noPlaceFirst(doc, "operate, no such bits, d" + of, t -> t.operate(0, 16, p, 2, 3));
            noPlaceFirst(doc, "operate, no such bits, a" + of, t -> t.operate(0, 16, 1, p, 3));
            noPlaceFirst(doc, "operate, no such bits, b" + of, t -> t.operate(0, 16, 1, 2, p));
            noPlaceFirst(doc, "operate, nothing as said, b" + of, t -> t.operate(12, 16, 1, 2, p));
            noPlaceFirst(doc, "cut, no such bits, d" + of, t -> t.cut(p, 2, 9));
            noPlaceFirst(doc, "cut, no such bits, a" + of, t -> t.cut(1, p, 9));
            noPlaceFirst(doc, "extend, no such bits, d" + of, t -> t.extend(p, 2, 64));
            noPlaceFirst(doc, "extend, no such bits, a" + of, t -> t.extend(1, p, 64));
            noPlaceFirst(doc, "swap, no such bits, d" + of, t -> t.swap(p, 2, 8));
            noPlaceFirst(doc, "swap, no such bits, a" + of, t -> t.swap(1, p, 8));
            noPlaceFirst(doc, "branch, no comparison, a" + of, t -> t.branch(12, p, 3));
            noPlaceFirst(doc, "branch, no comparison, b" + of, t -> t.branch(-1, 2, p));
            noPlaceFirst(doc, "branch, both places" + of, t -> t.branch(0, p, p));
            noPlaceFirst(doc, "branch, nothing as said, both places" + of, t -> t.branch(12, p, p));
            noPlaceFirst(doc, "decided, no comparison, a" + of, t -> t.decided(12, p, 3));
            noPlaceFirst(doc, "decided, no comparison, b" + of, t -> t.decided(-1, 2, p));
            noPlaceFirst(doc, "decided, both places" + of, t -> t.decided(0, p, p));
            noPlaceFirst(doc, "decided, nothing as said, both places" + of, t -> t.decided(12, p, p));
        }
    }

    private static void witnesses(Sentences doc) {
        long[][] unsigned = {{3, 12, 2}, {3, 12, 13}, {3, 12, -5}, {-4, -1, 9}, {-4, -1, -5}, {-4, -1, 0}, {0, MAX, MIN},
            {MIN, -1, MAX}, {5, 4, 5}, {5, 4, 4}, {-4, 9, -4}, {-4, 9, 9}, {-4, 9, 0}, {-1, 0, 0}, {-1, 0, -1}, {0, 0, 1},
            {-1, -1, -2}, {MIN, MAX, 0}};
        for (long[] c : unsigned) {
            refused(doc, "between: IllegalArgumentException: the witness is none of these - unsigned, " + c[2] + " from "
                    + c[0] + " to " + c[1], NOT_AS_SAID, t -> t.between(1, true, c[0], c[1], c[2]));
        }
        long[][] longs = {{3, 12, 2}, {3, 12, 13}, {-4, 9, -5}, {-4, 9, 10}, {-4, 9, MIN}, {-4, 9, MAX}, {MIN, -1, 0},
            {0, MAX, -1}, {9, -4, 9}, {9, -4, -4}, {9, -4, 0}, {MAX, MIN, MAX}, {MAX, MIN, MIN}, {MAX, MIN, 0},
            {MIN, MIN, MAX}, {MAX, MAX, MIN}, {0, -1, 0}, {0, -1, -1}};
        for (long[] c : longs) {
            refused(doc, "between: IllegalArgumentException: the witness is none of these - as longs, " + c[2] + " from "
                    + c[0] + " to " + c[1], NOT_AS_SAID, t -> t.between(1, false, c[0], c[1], c[2]));
        }
        long[][] patterns = {{8, 7, 0}, {8, 7, 7}, {8, 7, 24}, {8, 7, MIN | 8}, {MIN, 7, 1}, {0, ~1L, 1}, {1, ~1L, 0},
            {0, MAX, MIN}, {MIN, MAX, 0}, {5, 0, 4}, {0, 0, 1}, {-1, 0, 0}, {0, 0, -1}, {15, 5, 5}};
        for (long[] c : patterns) {
            refused(doc, "pattern: IllegalArgumentException: the witness is none of these - " + c[2] + " of " + c[0]
                    + " open at " + c[1], NOT_AS_SAID, t -> t.pattern(1, c[0], c[1], c[2]));
        }
    }

    private static void numbers(Sentences doc) {
        for (int n : new int[] {-1, 12, 13, 64, Integer.MIN_VALUE, Integer.MAX_VALUE}) {
            notAsSaid(doc, "operation " + n, t -> t.operate(n, 64, 1, 2, 3));
            notAsSaid(doc, "operation " + n + " of 32 bits", t -> t.operate(n, 32, 1, 2, 3));
            notAsSaid(doc, "branch, comparison " + n, t -> t.branch(n, 1, 2));
            notAsSaid(doc, "decided, comparison " + n, t -> t.decided(n, 1, 2));
        }
        int[] widths = {Integer.MIN_VALUE, -64, -32, -16, -8, -1, 0, 1, 4, 7, 8, 9, 15, 16, 17, 24, 31, 32, 33, 40, 48, 56,
            63, 64, 65, 128, 256, Integer.MAX_VALUE};
        for (int n : widths) {
            if (n != 32 && n != 64) {
                notAsSaid(doc, "operate of " + n + " bits", t -> t.operate(0, n, 1, 2, 3));
                notAsSaid(doc, "operate, MOVE of " + n + " bits", t -> t.operate(11, n, 1, 2, 3));
            }
            if (n != 8 && n != 16 && n != 32 && n != 64) {
                notAsSaid(doc, "cut to " + n, t -> t.cut(1, 2, n));
            }
            if (n != 8 && n != 16 && n != 32) {
                notAsSaid(doc, "extend from " + n, t -> t.extend(1, 2, n));
            }
            if (n != 16 && n != 32 && n != 64) {
                notAsSaid(doc, "swap by " + n, t -> t.swap(1, 2, n));
            }
        }
        for (int p = 0; p < 16; p++) {
            int place = p;
            notAsSaid(doc, "branch: places a and b, which are two - " + p, t -> t.branch(1, place, place));
            notAsSaid(doc, "decided: places a and b, which are two - " + p, t -> t.decided(1, place, place));
        }
        for (int c = 0; c < 12; c++) {
            int comparison = c;
            notAsSaid(doc, "branch of one place by " + c, t -> t.branch(comparison, 3, 3));
            notAsSaid(doc, "decided of one place by " + c, t -> t.decided(comparison, 3, 3));
        }
    }

    /** What is next to a refused call is none. */
    private static void allowed(Sentences doc) {
        doc.sentence("operate: An operation (0 .. 11) of 64 or 32 bits - the first and the last are none too many", t -> {
            for (int operation = 0; operation <= 11; operation++) {
                t.operate(operation, 64, 15, 0, 15);
                t.operate(operation, 32, 0, 15, 0);
            }
        });
        doc.sentence("branch, decided: A comparison (0 .. 11) - the first and the last are none too many", t -> {
            for (int c = 0; c <= 11; c++) {
                t.branch(c, 0, 15);
                t.decided(c, 15, 0);
            }
        });
        doc.sentence("within, join, widen: one place may stand for several", t -> {
            t.within(3, 3);
            t.join(3, 3, 3, true);
            t.widen(3, 3, 3);
            t.operate(0, 64, 3, 3, 3);
        });
    }

    public static void main(String[] args) {
        Sentences doc = new Sentences();
        places(doc);
        first(doc);
        witnesses(doc);
        numbers(doc);
        allowed(doc);
        doc.end();
    }
}

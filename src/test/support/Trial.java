/** A sieve of its own for one sentence of the document, and what was not as due in it. */
public final class Trial extends Sieve {
    static final long MIN = Long.MIN_VALUE;
    static final long MAX = Long.MAX_VALUE;
    static final long ALL = -1L;

    private final StringBuilder faults = new StringBuilder();

    String faults() {
        return faults.toString();
    }

    void fault(String text) {
        faults.append("    ").append(text).append('\n');
    }

    void answers(String what, long got, long due) {
        if (got != due) {
            fault(what + " answered " + got + ", due is " + due);
        }
    }

    void answers(String what, boolean got, boolean due) {
        if (got != due) {
            fault(what + " answered " + got + ", due is " + due);
        }
    }

    /** A place gets the numbers from one to another, unsigned; the first of them is its witness. */
    void unsigned(int place, long from, long to) {
        between(place, true, from, to, from);
    }

    /** A place gets the numbers from one to another, as longs; the first of them is its witness. */
    void longs(int place, long from, long to) {
        between(place, false, from, to, from);
    }

    /** A place gets the numbers with these bits; the one with 0 for the open bits is its witness. */
    void bits(int place, long v, long open) {
        pattern(place, v, open, v & ~open);
    }

    /** Place 3 gets what the operation makes of places 1 and 2. */
    void make(int operation, int bits) {
        operate(operation, bits, 3, 1, 2);
    }

    void is(int place, long low, long high, long least, long greatest, long open) {
        answers("LOW of " + place, least(place, true), low);
        answers("HIGH of " + place, greatest(place, true), high);
        answers("LEAST of " + place, least(place, false), least);
        answers("GREATEST of " + place, greatest(place, false), greatest);
        answers("unknown of " + place, unknown(place), open);
        answers("has its witness, " + place, has(place, witness(place)), true);
        answers("strays", strays(), 0);
    }

    void isAll(int place) {
        is(place, 0, ALL, MIN, MAX, ALL);
    }

    void isJust(int place, long v) {
        is(place, v, v, v, v, 0);
        answers("witness of " + place, witness(place), v);
    }

    /** Numbers with the same bit 63, so that both orders have the same bounds. */
    void isFromTo(int place, long from, long to, long open) {
        is(place, from, to, from, to, open);
    }

    void isOfWitness(int place, long w) {
        answers("witness of " + place, witness(place), w);
    }

    void holds(int place, long... numbers) {
        for (long v : numbers) {
            answers(place + " has " + v, has(place, v), true);
        }
    }

    void lacks(int place, long... numbers) {
        for (long v : numbers) {
            answers(place + " has " + v, has(place, v), false);
        }
    }
}

/**
 * A ValueSieve that counts its calls. Behind the 512th call of an object the document leaves every
 * answer free, so that a test which went further would refuse classes that are right.
 */
public class Sieve {
    static final int CALLS = 512;

    private final ValueSieve sieve = new ValueSieve();
    private int calls = 0;

    private ValueSieve next() {
        if (calls == CALLS) {
            throw new IllegalStateException("the test itself is wrong: more than 512 calls on one object");
        }
        calls++;
        return sieve;
    }

    int callsLeft() {
        return CALLS - calls;
    }

    void any(int place, long witness) {
        next().any(place, witness);
    }

    void constant(int place, long v) {
        next().constant(place, v);
    }

    void between(int place, boolean unsigned, long from, long to, long witness) {
        next().between(place, unsigned, from, to, witness);
    }

    void pattern(int place, long v, long unknown, long witness) {
        next().pattern(place, v, unknown, witness);
    }

    void operate(int operation, int bits, int d, int a, int b) {
        next().operate(operation, bits, d, a, b);
    }

    void cut(int d, int a, int bits) {
        next().cut(d, a, bits);
    }

    void extend(int d, int a, int bits) {
        next().extend(d, a, bits);
    }

    void swap(int d, int a, int bits) {
        next().swap(d, a, bits);
    }

    void join(int d, int a, int b, boolean first) {
        next().join(d, a, b, first);
    }

    void widen(int d, int a, int b) {
        next().widen(d, a, b);
    }

    boolean branch(int comparison, int a, int b) {
        return next().branch(comparison, a, b);
    }

    int decided(int comparison, int a, int b) {
        return next().decided(comparison, a, b);
    }

    boolean within(int a, int b) {
        return next().within(a, b);
    }

    boolean has(int place, long v) {
        return next().has(place, v);
    }

    long least(int place, boolean unsigned) {
        return next().least(place, unsigned);
    }

    long greatest(int place, boolean unsigned) {
        return next().greatest(place, unsigned);
    }

    long unknown(int place) {
        return next().unknown(place);
    }

    long witness(int place) {
        return next().witness(place);
    }

    int strays() {
        return next().strays();
    }

    /** All that can be asked of the places, in 97 calls. */
    String state() {
        StringBuilder text = new StringBuilder();
        for (int p = 0; p < 16; p++) {
            text.append("place ").append(p).append(": ");
            text.append(least(p, true)).append(' ').append(greatest(p, true)).append(' ');
            text.append(least(p, false)).append(' ').append(greatest(p, false)).append(' ');
            text.append(unknown(p)).append(' ').append(witness(p)).append('\n');
        }
        return text.append("strays: ").append(strays()).toString();
    }
}

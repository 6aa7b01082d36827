import java.util.function.Consumer;

/** Sentences of the document, each with a test of its own that fails if the sentence is broken. */
public final class Sentences {
    private int count = 0;
    private int broken = 0;

    /** The words of the document come first; behind a dash it may say which edge of them is meant. */
    void sentence(String words, Consumer<Trial> test) {
        count++;
        Trial t = new Trial();
        try {
            test.accept(t);
        } catch (RuntimeException | Error e) {
            t.fault("threw " + e);
        }
        if (!t.faults().isEmpty()) {
            broken++;
            System.out.println("broken: " + words);
            System.out.print(t.faults());
        }
    }

    void end() {
        System.out.println(count + " tests of sentences, " + broken + " broken");
        if (broken != 0) {
            System.exit(1);
        }
    }
}

import java.util.function.IntConsumer;

/**
 * Tests of the boundary cases that the document names (too small, too large, empty, full, refused),
 * one method for each of its sentences, which the method quotes.
 */
abstract class Edges {
    static final Class<IllegalArgumentException> ARGUMENT = IllegalArgumentException.class;
    static final Class<IndexOutOfBoundsException> INDEX = IndexOutOfBoundsException.class;
    static final int NONE = UsageDesk.NONE;
    static final int LOWEST = Integer.MIN_VALUE;
    static final int HIGHEST = Integer.MAX_VALUE;
    /** Numbers that are no CALL. */
    static final int[] NO_CALL = {LOWEST, -1, 8, 255, HIGHEST};

    private final Checks checks;
    private final Document document;
    private String quoted = "";

    Edges(Checks checks, Document document) {
        this.checks = checks;
        this.document = document;
    }

    abstract void run();

    /** The sentence that the checks behind are for; it must stand in the document as it is here. */
    final void sentence(int promise, String words) {
        quoted = (promise == Document.TERMS ? "Terms" : "Promise " + promise) + ", \"" + words + "\": ";
        checks.due(quoted + "stands in the document", document.name(promise, words) ? 1 : 0, 1);
    }

    final void due(String call, long got, long want) {
        checks.due(quoted + call, got, want);
    }

    final void due(String call, boolean got, boolean want) {
        checks.due(quoted + call, Boolean.toString(got), Boolean.toString(want));
    }

    final void due(String call, String got, String want) {
        checks.due(quoted + call, got, want);
    }

    /** A call that must throw just this class with each of these arguments. */
    final void throwing(String call, Class<? extends RuntimeException> want, IntConsumer run, int... arguments) {
        for (int argument : arguments) {
            checks.throwing(quoted + call + " with " + argument, want, () -> run.accept(argument));
        }
    }
}

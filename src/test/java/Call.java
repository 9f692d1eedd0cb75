import java.util.function.ToLongFunction;

/** A call of the face as a value, so that a run of calls can be made again on a new object. */
final class Call {
    static final long THREW = Long.MIN_VALUE;

    private final String text;
    private final ToLongFunction<CausalStore> way;

    Call(String text, ToLongFunction<CausalStore> way) {
        this.text = text;
        this.way = way;
    }

    /** What the call answers; a boolean counts 1 or 0. No call may throw, so THREW is never due. */
    long on(CausalStore x) {
        try {
            return way.applyAsLong(x);
        } catch (RuntimeException | StackOverflowError thrown) {
            return THREW;
        }
    }

    @Override
    public String toString() {
        return text;
    }
}

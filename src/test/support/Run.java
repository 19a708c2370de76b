import java.util.ArrayList;
import java.util.List;

/**
 * An object whose calls are counted and kept: behind the 512th nothing is promised, so that a test which
 * asks more is wrong; and what was called can be called again on a new object.
 */
final class Run {
    static final int MOST_CALLS = 512;

    interface Call {
        long on(FixityTrees x);
    }

    private final FixityTrees trees = new FixityTrees();
    private final List<Call> calls = new ArrayList<>();

    /** A new object after the first calls of this one; those that threw here throw there. */
    Run again(int first) {
        Run other = new Run();
        for (Call call : calls.subList(0, first)) {
            other.answer(call);
        }
        return other;
    }

    int made() {
        return calls.size();
    }

    long ask(Call call) {
        if (calls.size() >= MOST_CALLS) {
            throw new AssertionError("a test makes more than " + MOST_CALLS + " calls on one object");
        }
        calls.add(call);
        return call.on(trees);
    }

    /** The answer as a text, or the name of what was thrown. */
    String answer(Call call) {
        try {
            return "" + ask(call);
        } catch (RuntimeException e) {
            return e.getClass().getName();
        }
    }

    int scope(int outer) {
        return (int) ask(t -> t.scope(outer));
    }

    /** Answers 0, so that it can be asked like the others. */
    int fixity(int scope, int operator, int side, int rank) {
        return (int) ask(t -> {
            t.fixity(scope, operator, side, rank);
            return 0;
        });
    }

    int looked(int scope, int operator, int what) {
        return (int) ask(t -> t.looked(scope, operator, what));
    }

    /** Answers 0, so that it can be asked like the others. */
    int begin(boolean pattern) {
        return (int) ask(t -> {
            t.begin(pattern);
            return 0;
        });
    }

    int operand(long number) {
        return (int) ask(t -> t.operand(number));
    }

    int operator(int operator) {
        return (int) ask(t -> t.operator(operator));
    }

    int open() {
        return (int) ask(t -> t.open());
    }

    int close() {
        return (int) ask(t -> t.close());
    }

    int resolve(int scope) {
        return (int) ask(t -> t.resolve(scope));
    }

    int clash(int what) {
        return (int) ask(t -> t.clash(what));
    }

    int node(int k, int what) {
        return (int) ask(t -> t.node(k, what));
    }

    long number(int k) {
        return ask(t -> t.number(k));
    }

    int write(int scope) {
        return (int) ask(t -> t.write(scope));
    }

    int written(int i, int what) {
        return (int) ask(t -> t.written(i, what));
    }

    int take() {
        return (int) ask(t -> t.take());
    }

    /** 1 if it is the same, else 0. */
    int same(int scope) {
        return (int) ask(t -> t.same(scope) ? 1 : 0);
    }

    int told(int what) {
        return (int) ask(t -> t.told(what));
    }
}

/** Reads what a run has come to on new objects, as many as their 512 calls ask for: the run itself is left alone. */
final class Reader {
    private static final int MORE_THAN_WRITTEN = 1000;

    private final Run run;
    private final int made;
    private Run at;

    /** Of the run's first calls. */
    Reader(Run run, int made) {
        this.run = run;
        this.made = made;
    }

    Reader(Run run) {
        this(run, run.made());
    }

    private Run next() {
        if (at == null || at.made() == Run.MOST_CALLS) {
            at = run.again(made);
        }
        return at;
    }

    long ask(Run.Call call) {
        return next().ask(call);
    }

    String answer(Run.Call call) {
        return next().answer(call);
    }

    int told(int what) {
        return (int) ask(t -> t.told(what));
    }

    int node(int k, int what) {
        return (int) ask(t -> t.node(k, what));
    }

    int written(int i, int what) {
        return (int) ask(t -> t.written(i, what));
    }

    /** How many items were written: no call tells it, so that they are tried. */
    int writtenSize() {
        int size = 0;
        while (size < MORE_THAN_WRITTEN && isItem(size)) {
            size++;
        }
        return size;
    }

    private boolean isItem(int i) {
        return !answer(t -> t.written(i, 0)).startsWith("java");
    }
}

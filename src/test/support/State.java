/** All that an object tells, and what becomes of its row: two objects with the same text are alike. */
final class State {
    private State() {
    }

    static String of(Run run) {
        return of(run, run.made());
    }

    /** As it was after the run's first calls. */
    static String of(Run run, int made) {
        StringBuilder text = new StringBuilder();
        addTold(text, new Reader(run, made));
        addScopes(text, new Reader(run, made));
        addTree(text, new Reader(run, made));
        addWritten(text, new Reader(run, made));
        addRow(text, run, made);
        addTaken(text, run, made);
        return text.toString();
    }

    private static void addTold(StringBuilder text, Reader x) {
        text.append("told");
        for (int what = 0; what < 7; what++) {
            text.append(' ').append(x.told(what));
        }
        text.append("\nclash");
        for (int what = 0; what < 3; what++) {
            int w = what;
            text.append(' ').append(x.ask(t -> t.clash(w)));
        }
    }

    private static void addScopes(StringBuilder text, Reader x) {
        int scopes = x.told(3);
        for (int scope = 0; scope < scopes; scope++) {
            int s = scope;
            text.append("\nscope ").append(s);
            for (int operator = 0; operator < 41; operator++) {
                int o = operator;
                text.append(' ').append(x.ask(t -> t.looked(s, o, 0)));
                text.append('.').append(x.ask(t -> t.looked(s, o, 1)));
                text.append('.').append(x.ask(t -> t.looked(s, o, 2)));
            }
        }
    }

    private static void addTree(StringBuilder text, Reader x) {
        int nodes = x.told(4);
        for (int k = 0; k < nodes; k++) {
            int node = k;
            text.append("\nnode");
            for (int what = 0; what < 5; what++) {
                text.append(' ').append(x.node(node, what));
            }
            text.append(' ').append(x.answer(t -> t.number(node)));
        }
    }

    private static void addWritten(StringBuilder text, Reader x) {
        int size = x.writtenSize();
        for (int i = 0; i < size; i++) {
            text.append("\nwritten");
            for (int what = 0; what < 3; what++) {
                text.append(' ').append(x.written(i, what));
            }
        }
    }

    // No call reads the row: what may come behind it, and its tree, tell what is in it.
    private static void addRow(StringBuilder text, Run run, int made) {
        text.append("\nnext");
        text.append(' ').append(run.again(made).answer(t -> t.operand(0)));
        text.append(' ').append(run.again(made).answer(t -> t.operator(0)));
        text.append(' ').append(run.again(made).answer(t -> t.operator(1)));
        text.append(' ').append(run.again(made).answer(t -> t.open()));
        text.append(' ').append(run.again(made).answer(t -> t.close()));
        Run group = run.again(made);
        group.answer(t -> t.operator(0));
        group.answer(t -> t.open());
        text.append("\na group: ").append(group.answer(t -> t.operator(1)));

        Run whole = run.again(made);
        if (whole.told(2) == 1) {
            whole.answer(t -> t.operand(77));
        }
        for (int i = whole.told(1); i > 0; i--) {
            whole.answer(t -> t.close());
        }
        text.append("\nwhole: ").append(whole.answer(t -> t.resolve(0)));
        addTree(text, new Reader(whole));
    }

    private static void addTaken(StringBuilder text, Run run, int made) {
        Run taken = run.again(made);
        text.append("\ntaken: ").append(taken.answer(t -> t.take()));
        text.append(' ').append(taken.answer(t -> t.resolve(0)));
        addTree(text, new Reader(taken));
    }
}

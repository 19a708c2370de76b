import java.util.ArrayList;
import java.util.List;

/** What holds of every call: which exception comes first, that it changes nothing, and 512 calls of one object. */
public final class TermsTest {
    private static final int[] EDGES = {Integer.MIN_VALUE, -1, 0, 1, 2, 3, 4, 5, 6, 7, 29, 30, 40, 41, 199, 200, Integer.MAX_VALUE};
    private static final int[] FEW = {-1, 0, 1, 40, 41};

    public static void main(String[] args) {
        eachCallInEachState();
        refusedCallsOneBehindTheOther();
        callsToTheLast();
        refusedCallsToTheLast();
        Due.end();
    }

    private static List<String> calls() {
        List<String> calls = new ArrayList<>(List.of("begin false", "begin true", "open", "close", "take",
                "operand 7", "operand " + Long.MIN_VALUE, "operand " + Long.MAX_VALUE));
        for (String name : new String[] {"scope", "operator", "resolve", "clash", "number", "write", "same", "told"}) {
            for (int edge : EDGES) {
                calls.add(name + " " + edge);
            }
        }
        for (int edge : EDGES) {
            for (int what = -1; what <= 5; what++) {
                calls.add("node " + edge + " " + what);
                calls.add("written " + edge + " " + what);
            }
        }
        for (int scope : new int[] {-1, 0, 1, 29, 30}) {
            for (int operator : FEW) {
                for (int what = -1; what <= 3; what++) {
                    calls.add("looked " + scope + " " + operator + " " + what);
                }
                for (int side : new int[] {-1, 0, 2, 3}) {
                    for (int rank : new int[] {-1, 0, 9, 10}) {
                        calls.add("fixity " + scope + " " + operator + " " + side + " " + rank);
                    }
                }
            }
        }
        return calls;
    }

    private static void add(List<String> state, int times, String... calls) {
        for (int i = 0; i < times; i++) {
            state.addAll(List.of(calls));
        }
    }

    private static List<String> state(String... calls) {
        return new ArrayList<>(List.of(calls));
    }

    /** A tree that was written, and a row that is not whole. */
    private static List<String> tree() {
        return state("fixity 0 1 1 5", "scope 0", "fixity 1 1 0 5", "operand 1", "operator 1", "operand 2", "operator 1",
                "operator 0", "operand 3", "resolve 0", "write 1", "begin false", "operand 4", "operator 1");
    }

    private static List<List<String>> states() {
        List<List<String>> states = new ArrayList<>();
        states.add(state());
        List<String> scopes = state("fixity 0 40 1 3");
        add(scopes, 29, "scope 0");
        scopes.addAll(state("fixity 29 1 2 0", "operand 1"));
        states.add(scopes);
        List<String> full = state();
        add(full, 200, "operator 0");
        states.add(full);
        List<String> fullAndWhole = state("fixity 0 1 1 8", "operator 0");
        add(fullAndWhole, 99, "operand 1", "operator 1");
        fullAndWhole.addAll(state("operand 1", "resolve 0", "write 0"));
        states.add(fullAndWhole);
        List<String> open = tree();
        open.add("begin false");
        add(open, 40, "open", "operator 1");
        open.add("operand 5");
        states.add(open);
        states.add(tree());
        states.add(state("begin true", "open", "operator 0"));
        states.add(state("begin false", "open", "operand 1", "operator 1"));
        List<String> clash = tree();
        clash.addAll(state("fixity 0 2 2 5", "begin false", "operand 1", "operator 1", "operand 2", "operator 2", "operand 3",
                "resolve 0"));
        states.add(clash);
        List<String> taken = tree();
        taken.add("take");
        states.add(taken);
        // What is written is too much for a row.
        List<String> more = state("fixity 0 1 1 5", "scope 0", "fixity 1 1 0 5");
        add(more, 60, "operand 1", "operator 1");
        more.addAll(state("operand 1", "resolve 0", "write 1"));
        states.add(more);
        return states;
    }

    private static void eachCallInEachState() {
        Due.about("Terms", "Of several the first one in this order. A call that throws changes nothing.");
        for (List<String> state : states()) {
            Run run = new Run();
            for (String call : state) {
                run.answer(t -> Calls.on(t, call));
            }
            String before = State.of(run);
            String last = state.isEmpty() ? "nothing" : state.get(state.size() - 1);
            for (String call : calls()) {
                Run x = run.again(run.made());
                String got = x.answer(t -> Calls.on(t, call));
                String name = call + " behind " + state.size() + " calls, " + last + " the latest";
                Due.text(name, got, due(state, call));
                if (got.startsWith("java")) {
                    Due.text(name + " threw: the state", State.of(x), before);
                }
            }
        }
    }

    private static String due(List<String> state, String call) {
        Model model = new Model();
        for (String past : state) {
            Calls.answer(model, past);
        }
        return Calls.answer(model, call);
    }

    private static void refusedCallsOneBehindTheOther() {
        Due.about("Terms", "A call that throws changes nothing.");
        List<String> state = tree();
        Run x = new Run();
        for (String call : state) {
            x.answer(t -> Calls.on(t, call));
        }
        String before = State.of(x);
        for (String call : calls()) {
            if (x.made() < Run.MOST_CALLS - 60 && due(state, call).startsWith("java")) {
                x.answer(t -> Calls.on(t, call));
            }
        }
        Due.text("the state behind " + (x.made() - state.size()) + " refused calls", State.of(x), before);
    }

    private static void callsToTheLast() {
        Due.about("What it is", "An object is used for at most 512 calls after it has been made");
        Run x = Texts.with("rR5");
        x.scope(0);
        Texts.tell(x, 1, "rL9");
        Texts.row(x, Texts.times(66, "- 1 r") + " - 1");
        for (int call = x.made(); call < Run.MOST_CALLS - 2; call += 3) {
            Due.is("resolve(0)", () -> x.resolve(0), 200);
            Due.is("write(1)", () -> x.write(1), 464);
            Due.is("same(0)", () -> x.same(0), 1);
        }
        while (x.made() < Run.MOST_CALLS) {
            Due.is("told(4) as the last", () -> x.told(4), 200);
        }
    }

    private static void refusedCallsToTheLast() {
        Due.about("What it is", "An object is used for at most 512 calls after it has been made");
        Run x = new Run();
        for (int call = 1; call < Run.MOST_CALLS; call++) {
            x.answer(t -> t.close());
        }
        Due.is("the 512th call", () -> x.operand(7), 1);
    }
}

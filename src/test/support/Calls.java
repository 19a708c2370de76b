/** Calls as texts, such as "fixity 0 1 0 6", on an object and on the model. */
final class Calls {
    private Calls() {
    }

    private static int at(String[] words, int i) {
        return Integer.parseInt(words[i]);
    }

    static long on(FixityTrees x, String call) {
        String[] w = call.split(" ");
        switch (w[0]) {
            case "scope": return x.scope(at(w, 1));
            case "fixity": x.fixity(at(w, 1), at(w, 2), at(w, 3), at(w, 4)); return 0;
            case "looked": return x.looked(at(w, 1), at(w, 2), at(w, 3));
            case "begin": x.begin(w[1].equals("true")); return 0;
            case "operand": return x.operand(Long.parseLong(w[1]));
            case "operator": return x.operator(at(w, 1));
            case "open": return x.open();
            case "close": return x.close();
            case "resolve": return x.resolve(at(w, 1));
            case "clash": return x.clash(at(w, 1));
            case "node": return x.node(at(w, 1), at(w, 2));
            case "number": return x.number(at(w, 1));
            case "write": return x.write(at(w, 1));
            case "written": return x.written(at(w, 1), at(w, 2));
            case "take": return x.take();
            case "same": return x.same(at(w, 1)) ? 1 : 0;
            case "told": return x.told(at(w, 1));
            default: throw new AssertionError(call);
        }
    }

    static long on(Model x, String call) {
        String[] w = call.split(" ");
        switch (w[0]) {
            case "scope": return x.scope(at(w, 1));
            case "fixity": x.fixity(at(w, 1), at(w, 2), at(w, 3), at(w, 4)); return 0;
            case "looked": return x.looked(at(w, 1), at(w, 2), at(w, 3));
            case "begin": x.begin(w[1].equals("true")); return 0;
            case "operand": return x.operand(Long.parseLong(w[1]));
            case "operator": return x.operator(at(w, 1));
            case "open": return x.open();
            case "close": return x.close();
            case "resolve": return x.resolve(at(w, 1));
            case "clash": return x.clash(at(w, 1));
            case "node": return x.node(at(w, 1), at(w, 2));
            case "number": return x.number(at(w, 1));
            case "write": return x.write(at(w, 1));
            case "written": return x.written(at(w, 1), at(w, 2));
            case "take": return x.take();
            case "same": return x.same(at(w, 1)) ? 1 : 0;
            case "told": return x.told(at(w, 1));
            default: throw new AssertionError(call);
        }
    }

    static String answer(Model x, String call) {
        try {
            return "" + on(x, call);
        } catch (RuntimeException e) {
            return e.getClass().getName();
        }
    }
}

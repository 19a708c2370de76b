/** Promises 1 to 4: a new object, scope, fixity, looked. */
public final class ScopesTest {
    public static void main(String[] args) {
        newObject();
        scopesWithinScopes();
        thirtyScopes();
        fixityIsTold();
        fixityRefuses();
        nearestScopeTells();
        minusIsFixed();
        lookedRefuses();
        Due.end();
    }

    private static void newObject() {
        FixityTrees x = new FixityTrees();
        int[] told = {0, 0, 1, 1, 0, 0, 0};
        for (int what = 0; what < told.length; what++) {
            int w = what;
            Due.is("new: told(" + w + ")", () -> x.told(w), told[w]);
        }
        for (int what = 0; what < 3; what++) {
            int w = what;
            Due.is("new: clash(" + w + ")", () -> x.clash(w), FixityTrees.NONE);
        }
        for (int operator = 1; operator <= 40; operator++) {
            int o = operator;
            Due.is("new: side", () -> x.looked(0, o, 0), 0);
            Due.is("new: rank", () -> x.looked(0, o, 1), 9);
            Due.is("new: teller", () -> x.looked(0, o, 2), FixityTrees.NONE);
        }
        Due.outOfBounds(x, "new: node(0, 0)", () -> x.node(0, 0));
        Due.outOfBounds(x, "new: written(0, 0)", () -> x.written(0, 0));
        Due.badState(x, "new: write(0)", () -> x.write(0));
        Due.badState(x, "new: take()", () -> x.take());
        // No pattern: a section may come.
        Due.is("new: a section", () -> Texts.items(x, "( a 1 )"), 4);
    }

    private static void scopesWithinScopes() {
        FixityTrees x = new FixityTrees();
        Due.outOfBounds(x, "scope(1)", () -> x.scope(1));
        Due.outOfBounds(x, "scope(-1)", () -> x.scope(-1));
        Due.outOfBounds(x, "scope(least)", () -> x.scope(Integer.MIN_VALUE));
        Due.outOfBounds(x, "scope(most)", () -> x.scope(Integer.MAX_VALUE));
        Due.is("scope(0)", () -> x.scope(0), 1);
        Due.is("scope(1)", () -> x.scope(1), 2);
        Due.is("scope(0)", () -> x.scope(0), 3);
        Due.outOfBounds(x, "scope(4)", () -> x.scope(4));
        Due.is("told(3)", () -> x.told(3), 4);
    }

    private static void thirtyScopes() {
        FixityTrees x = new FixityTrees();
        for (int scope = 1; scope < 30; scope++) {
            int s = scope;
            Due.is("scope " + s, () -> x.scope(s - 1), s);
        }
        Due.badState(x, "the 31st scope", () -> x.scope(0));
        Due.outOfBounds(x, "the 31st scope in none", () -> x.scope(30));
        Due.is("told(3)", () -> x.told(3), 30);
        x.fixity(0, 40, 1, 3);
        Due.is("seen 29 scopes deep: side", () -> x.looked(29, 40, 0), 1);
        Due.is("seen 29 scopes deep: rank", () -> x.looked(29, 40, 1), 3);
        Due.is("seen 29 scopes deep: teller", () -> x.looked(29, 40, 2), 0);
        x.fixity(29, 40, 2, 0);
        Due.is("told in the last scope: side", () -> x.looked(29, 40, 0), 2);
        Due.is("told in the last scope: rank", () -> x.looked(29, 40, 1), 0);
        Due.is("told in the last scope: teller", () -> x.looked(29, 40, 2), 29);
        Due.is("not told around it", () -> x.looked(28, 40, 2), 0);
    }

    private static void fixityIsTold() {
        FixityTrees x = new FixityTrees();
        for (int side = 0; side < 3; side++) {
            for (int rank = 0; rank < 10; rank++) {
                int s = side;
                int r = rank;
                int o = 1 + s * 10 + r;
                x.fixity(0, o, s, r);
                Due.is("side of " + o, () -> x.looked(0, o, 0), s);
                Due.is("rank of " + o, () -> x.looked(0, o, 1), r);
                Due.is("teller of " + o, () -> x.looked(0, o, 2), 0);
            }
        }
        Due.is("the next one is untold", () -> x.looked(0, 31, 2), FixityTrees.NONE);
        Texts.row(x, "1");
        x.resolve(0);
        String tree = Texts.tree(x);
        x.fixity(0, 40, 1, 1);
        Due.text("the tree stays", Texts.tree(x), tree);
    }

    private static long fixity(FixityTrees x, int scope, int operator, int side, int rank) {
        x.fixity(scope, operator, side, rank);
        return 0;
    }

    private static void fixityRefuses() {
        FixityTrees x = new FixityTrees();
        x.fixity(0, 1, 0, 0);
        Due.outOfBounds(x, "scope -1", () -> fixity(x, -1, 2, 0, 0));
        Due.outOfBounds(x, "scope 1", () -> fixity(x, 1, 2, 0, 0));
        Due.outOfBounds(x, "scope 1 before minus", () -> fixity(x, 1, 0, 0, 0));
        Due.outOfBounds(x, "operator -1", () -> fixity(x, 0, -1, 0, 0));
        Due.outOfBounds(x, "operator 41", () -> fixity(x, 0, 41, 0, 0));
        Due.outOfBounds(x, "operator 41 before side", () -> fixity(x, 0, 41, 3, 10));
        Due.badState(x, "minus", () -> fixity(x, 0, 0, 0, 6));
        Due.badState(x, "minus before side", () -> fixity(x, 0, 0, 3, 6));
        Due.badState(x, "told already", () -> fixity(x, 0, 1, 1, 1));
        Due.badState(x, "told already, the same", () -> fixity(x, 0, 1, 0, 0));
        Due.badState(x, "told already before rank", () -> fixity(x, 0, 1, 0, 10));
        Due.badArgument(x, "side -1", () -> fixity(x, 0, 2, -1, 0));
        Due.badArgument(x, "side 3", () -> fixity(x, 0, 2, 3, 0));
        Due.badArgument(x, "rank -1", () -> fixity(x, 0, 2, 0, -1));
        Due.badArgument(x, "rank 10", () -> fixity(x, 0, 2, 0, 10));
        Due.badArgument(x, "rank least", () -> fixity(x, 0, 2, 0, Integer.MIN_VALUE));
        Due.is("another scope may tell it", () -> fixity(x, x.scope(0), 1, 1, 1), 0);
    }

    private static void nearestScopeTells() {
        FixityTrees x = new FixityTrees();
        x.scope(0);
        x.scope(1);
        x.scope(0);
        x.fixity(1, 7, 1, 4);
        Due.is("scope 2 looks into 1", () -> x.looked(2, 7, 2), 1);
        Due.is("scope 3 does not lie in 1", () -> x.looked(3, 7, 2), FixityTrees.NONE);
        Due.is("scope 0 does not lie in 1", () -> x.looked(0, 7, 1), 9);
        // What a scope around tells later is seen as well.
        x.fixity(0, 7, 2, 2);
        Due.is("scope 2: still 1", () -> x.looked(2, 7, 2), 1);
        Due.is("scope 3: now 0", () -> x.looked(3, 7, 2), 0);
        Due.is("scope 3: side", () -> x.looked(3, 7, 0), 2);
        Due.is("scope 3: rank", () -> x.looked(3, 7, 1), 2);
        x.fixity(2, 7, 0, 9);
        Due.is("scope 2: itself", () -> x.looked(2, 7, 2), 2);
        Due.is("scope 2: side", () -> x.looked(2, 7, 0), 0);
        Due.is("scope 2: rank", () -> x.looked(2, 7, 1), 9);
        Due.is("scope 1: itself", () -> x.looked(1, 7, 1), 4);
    }

    private static void minusIsFixed() {
        FixityTrees x = new FixityTrees();
        x.scope(0);
        for (int scope = 0; scope < 2; scope++) {
            int s = scope;
            Due.is("minus: side", () -> x.looked(s, 0, 0), 0);
            Due.is("minus: rank", () -> x.looked(s, 0, 1), 6);
            Due.is("minus: teller", () -> x.looked(s, 0, 2), FixityTrees.NONE);
        }
    }

    private static void lookedRefuses() {
        FixityTrees x = new FixityTrees();
        Due.outOfBounds(x, "scope 1", () -> x.looked(1, 0, 0));
        Due.outOfBounds(x, "scope -1", () -> x.looked(-1, 0, 0));
        Due.outOfBounds(x, "operator 41", () -> x.looked(0, 41, 0));
        Due.outOfBounds(x, "operator -1", () -> x.looked(0, -1, 9));
        Due.badArgument(x, "what 3", () -> x.looked(0, 0, 3));
        Due.badArgument(x, "what -1", () -> x.looked(0, 40, -1));
    }
}

/** Promises 1 to 4, and what the terms say of scopes: a new object, scope, fixity, looked. */
public final class ScopesTest {
    private static final int NONE = FixityTrees.NONE;
    private static final int LEAST = Integer.MIN_VALUE;
    private static final int MOST = Integer.MAX_VALUE;

    public static void main(String[] args) {
        newObjectTellsNothing();
        newObjectHasAnEmptyRow();
        newObjectHasNoPattern();
        newObjectHasNoTree();
        newObjectsAreApart();

        scopeAnswersItsNumber();
        scopeWithinNoScope();
        thirtyScopes();

        fixityIsTold();
        fixityOfTheFirstAndTheLast();
        fixityOfNoScopeOrOperator();
        fixityOfMinus();
        fixityTwice();
        fixityOfNoSideOrRank();
        sidesFromFirstToLast();
        ranksFromFirstToLast();
        fixityLeavesTheTree();

        lookedAnswers();
        lookedOfUntold();
        lookedOfMinus();
        lookedAtTheNearest();
        lookedAtNoScopeOrOperator();
        lookedAtNoSuchWhat();
        Due.end();
    }

    private static void looked(Run x, int scope, int operator, int side, int rank, int teller) {
        String call = "looked(" + scope + ", " + operator + ", ";
        Due.is(call + "0)", () -> x.looked(scope, operator, 0), side);
        Due.is(call + "1)", () -> x.looked(scope, operator, 1), rank);
        Due.is(call + "2)", () -> x.looked(scope, operator, 2), teller);
    }

    /** Thirty scopes, each within the one before. */
    private static Run full() {
        Run x = new Run();
        for (int scope = 1; scope < 30; scope++) {
            x.scope(scope - 1);
        }
        return x;
    }

    // Promise 1

    private static void newObjectTellsNothing() {
        Due.about("Promise 1", "Scope 0, which tells nothing");
        Run x = new Run();
        Due.is("told(3)", () -> x.told(3), 1);
        for (int operator = 1; operator <= 40; operator++) {
            looked(x, 0, operator, 0, 9, NONE);
        }
        Due.outOfBounds(x, "looked(1, 1, 0)", () -> x.looked(1, 1, 0));
        Due.outOfBounds(x, "fixity(1, 1, 0, 0)", () -> x.fixity(1, 1, 0, 0));
        Due.is("fixity(0, 1, 0, 0)", () -> x.fixity(0, 1, 0, 0), 0);
    }

    private static void newObjectHasAnEmptyRow() {
        Due.about("Promise 1", "an empty row");
        Run x = new Run();
        Due.is("told(0)", () -> x.told(0), 0);
        Due.is("told(1)", () -> x.told(1), 0);
        Due.is("told(2)", () -> x.told(2), 1);
        Due.badState(x, "resolve(0)", () -> x.resolve(0));
        Due.badState(x, "close()", () -> x.close());
        Due.badState(x, "operator(1)", () -> x.operator(1));
        Due.is("operand(5)", () -> x.operand(5), 1);
    }

    private static void newObjectHasNoPattern() {
        Due.about("Promise 1", "no PATTERN");
        Run right = new Run();
        Due.is("a right section", () -> Texts.items(right, "( a 1 )"), 4);
        Run left = new Run();
        Due.is("a left section", () -> Texts.items(left, "( 1 a )"), 4);
        Run negation = new Run();
        Due.is("OPEN behind a negation", () -> Texts.items(negation, "- ("), 2);
        Run two = new Run();
        Due.is("a negation behind a negation", () -> Texts.items(two, "- -"), 2);
        Run wide = new Run();
        Texts.items(wide, "- 1 a 2");
        Due.is("a negation of more than an operand", () -> wide.resolve(0), 4);
    }

    private static void newObjectHasNoTree() {
        Due.about("Promise 1", "no tree");
        Run x = new Run();
        Due.is("told(4)", () -> x.told(4), 0);
        Due.is("told(5)", () -> x.told(5), 0);
        Due.is("told(6)", () -> x.told(6), 0);
        Due.is("clash(0)", () -> x.clash(0), NONE);
        Due.is("clash(1)", () -> x.clash(1), NONE);
        Due.is("clash(2)", () -> x.clash(2), NONE);
        Due.outOfBounds(x, "node(0, 0)", () -> x.node(0, 0));
        Due.outOfBounds(x, "number(0)", () -> x.number(0));
        Due.badState(x, "write(0)", () -> x.write(0));
        Due.outOfBounds(x, "written(0, 0)", () -> x.written(0, 0));
        Due.badState(x, "take()", () -> x.take());
        x.operand(5);
        Due.badState(x, "same(0) of a whole row", () -> x.same(0));
    }

    private static void newObjectsAreApart() {
        Due.about("Promise 1", "Scope 0, which tells nothing; an empty row, no PATTERN; no tree.");
        String before = State.of(new Run());
        Run used = Texts.with("aL6 nN4");
        used.scope(0);
        Texts.row(used, "1 a 2");
        used.resolve(0);
        used.write(0);
        Texts.row(used, "1 n 2 n 3");
        used.resolve(0);
        Texts.pattern(used, "( -");
        Due.text("a new object beside a used one", State.of(new Run()), before);
    }

    // Promise 2

    private static void scopeAnswersItsNumber() {
        Due.about("Promise 2", "A scope within another one: its number.");
        Run x = new Run();
        int[] outers = {0, 1, 0, 3, 1};
        for (int i = 0; i < outers.length; i++) {
            int outer = outers[i];
            Due.is("scope(" + outer + ")", () -> x.scope(outer), i + 1);
        }
        x.fixity(1, 9, 1, 5);
        int[] tellers = {NONE, 1, 1, NONE, NONE, 1};
        for (int i = 0; i < tellers.length; i++) {
            int scope = i;
            Due.is("looked(" + i + ", 9, 2)", () -> x.looked(scope, 9, 2), tellers[i]);
        }
        Run used = Texts.with("aL6");
        Texts.row(used, "1 a 2");
        used.resolve(0);
        used.write(0);
        Texts.row(used, "( 3");
        used.scope(0);
        Due.text("the tree behind scope(0)", Texts.tree(used), "[1 a 2]");
        Due.text("what was written", Texts.written(used), "#1 a #2");
        Due.is("the row goes on", () -> used.close(), 3);
    }

    private static void scopeWithinNoScope() {
        Due.about("Promise 2", "IndexOutOfBounds");
        for (int outer : new int[] {-1, 1, 2, 29, 30, LEAST, MOST}) {
            Run x = new Run();
            Due.outOfBounds(x, "scope(" + outer + ")", () -> x.scope(outer));
            Due.is("scope(0) behind it", () -> x.scope(0), 1);
        }
        Run x = new Run();
        x.scope(0);
        x.scope(1);
        Due.outOfBounds(x, "scope(3)", () -> x.scope(3));
        Due.is("scope(2)", () -> x.scope(2), 3);
        Due.is("scope(3), which is there now", () -> x.scope(3), 4);
    }

    private static void thirtyScopes() {
        Due.about("Promise 2", "IllegalState: there are 30.");
        Run wide = new Run();
        Run deep = new Run();
        for (int scope = 1; scope < 30; scope++) {
            int number = scope;
            Due.is("scope(0)", () -> wide.scope(0), number);
            Due.is("scope(" + (number - 1) + ")", () -> deep.scope(number - 1), number);
        }
        for (Run x : new Run[] {wide, deep}) {
            Due.is("told(3)", () -> x.told(3), 30);
            Due.badState(x, "scope(0), the 31st", () -> x.scope(0));
            Due.badState(x, "scope(29), the 31st", () -> x.scope(29));
            Due.is("told(3) still", () -> x.told(3), 30);
        }
        Due.about("Terms", "SCOPES 0, 1, .. (30 at most): 0 is the outermost, each other one lies in one that was there.");
        deep.fixity(0, 2, 1, 1);
        wide.fixity(28, 2, 1, 1);
        Due.is("the 30th lies in the 29th, and so on", () -> deep.looked(29, 2, 2), 0);
        Due.is("the 30th lies in the first alone", () -> wide.looked(29, 2, 2), NONE);
        Due.about("Terms", "Of several the first one in this order.");
        Due.outOfBounds(deep, "scope(30), the 31st", () -> deep.scope(30));
        Due.outOfBounds(deep, "scope(-1), the 31st", () -> deep.scope(-1));
    }

    // Promise 3

    private static void fixityIsTold() {
        Due.about("Promise 3", "A scope tells an operator's SIDE and RANK.");
        for (int side = 0; side <= 2; side++) {
            for (int rank = 0; rank <= 9; rank++) {
                Run x = new Run();
                x.fixity(0, 7, side, rank);
                looked(x, 0, 7, side, rank, 0);
            }
        }
    }

    private static void fixityOfTheFirstAndTheLast() {
        Due.about("Terms", "OPERATORS are 0 .. 40");
        for (int operator : new int[] {1, 2, 39, 40}) {
            for (int scope : new int[] {0, 1, 28, 29}) {
                Run x = full();
                x.fixity(scope, operator, 2, 3);
                looked(x, scope, operator, 2, 3, scope);
                looked(x, 29, operator, 2, 3, scope);
                looked(x, scope, operator == 40 ? 1 : operator + 1, 0, 9, NONE);
                looked(x, scope, operator == 1 ? 40 : operator - 1, 0, 9, NONE);
                if (scope > 0) {
                    looked(x, scope - 1, operator, 0, 9, NONE);
                }
            }
        }
        Run all = new Run();
        for (int operator = 1; operator <= 40; operator++) {
            all.fixity(0, operator, operator % 3, operator % 10);
        }
        for (int operator = 1; operator <= 40; operator++) {
            looked(all, 0, operator, operator % 3, operator % 10, 0);
        }
        looked(all, 0, 0, 0, 6, NONE);
    }

    private static void fixityOfNoScopeOrOperator() {
        Due.about("Promise 3", "IndexOutOfBounds: the scope, or operator");
        Run x = new Run();
        x.fixity(0, 1, 0, 0);
        for (int scope : new int[] {-1, 1, 29, 30, LEAST, MOST}) {
            Due.outOfBounds(x, "scope " + scope, () -> x.fixity(scope, 2, 0, 0));
        }
        for (int operator : new int[] {-1, 41, 42, LEAST, MOST}) {
            Due.outOfBounds(x, "operator " + operator, () -> x.fixity(0, operator, 0, 0));
        }
        Run full = full();
        Due.outOfBounds(full, "scope 30", () -> full.fixity(30, 2, 0, 0));
        Due.outOfBounds(full, "operator 41 in scope 28", () -> full.fixity(28, 41, 0, 0));
        Due.outOfBounds(full, "operator -1 in scope 29", () -> full.fixity(29, -1, 0, 0));
        Due.about("Terms", "Of several the first one in this order.");
        Due.outOfBounds(x, "no scope, MINUS", () -> x.fixity(1, 0, 0, 0));
        Due.outOfBounds(x, "no scope, a told operator, no side", () -> x.fixity(1, 1, 3, 0));
        Due.outOfBounds(x, "no operator, no side, no rank", () -> x.fixity(0, 41, 3, 10));
        Due.outOfBounds(x, "no operator, no rank", () -> x.fixity(0, -1, 0, -1));
    }

    private static void fixityOfMinus() {
        Due.about("Promise 3", "IllegalState: it is MINUS");
        Run x = full();
        Due.badState(x, "MINUS in scope 0", () -> x.fixity(0, 0, 1, 3));
        Due.badState(x, "MINUS as it is", () -> x.fixity(0, 0, 0, 6));
        Due.badState(x, "MINUS in scope 29", () -> x.fixity(29, 0, 0, 6));
        Due.about("Terms", "Of several the first one in this order.");
        Due.badState(x, "MINUS, no side", () -> x.fixity(0, 0, 3, 6));
        Due.badState(x, "MINUS, no rank", () -> x.fixity(29, 0, 0, -1));
    }

    private static void fixityTwice() {
        Due.about("Promise 3", "or the scope tells it already");
        for (int side = 0; side <= 2; side++) {
            for (int rank : new int[] {0, 9}) {
                Run x = new Run();
                int s = side;
                x.fixity(0, 40, s, rank);
                Due.badState(x, "the same again", () -> x.fixity(0, 40, s, rank));
                Due.badState(x, "another one", () -> x.fixity(0, 40, 1, 5));
            }
        }
        Run x = new Run();
        x.scope(0);
        x.scope(1);
        x.fixity(1, 5, 0, 0);
        Due.is("a scope around may tell it", () -> x.fixity(0, 5, 1, 1), 0);
        Due.is("a scope within may tell it", () -> x.fixity(2, 5, 2, 2), 0);
        Due.badState(x, "scope 1 may not", () -> x.fixity(1, 5, 1, 1));
        looked(x, 0, 5, 1, 1, 0);
        looked(x, 1, 5, 0, 0, 1);
        looked(x, 2, 5, 2, 2, 2);
        Due.about("Terms", "Of several the first one in this order.");
        Due.badState(x, "told already, no side", () -> x.fixity(1, 5, -1, 0));
        Due.badState(x, "told already, no rank", () -> x.fixity(1, 5, 0, 10));
    }

    private static void fixityOfNoSideOrRank() {
        Due.about("Promise 3", "IllegalArgument.");
        Run x = new Run();
        for (int side : new int[] {-1, 3, 4, LEAST, MOST}) {
            Due.badArgument(x, "side " + side, () -> x.fixity(0, 40, side, 0));
        }
        for (int rank : new int[] {-1, 10, 11, LEAST, MOST}) {
            Due.badArgument(x, "rank " + rank, () -> x.fixity(0, 40, 2, rank));
        }
        Due.badArgument(x, "neither", () -> x.fixity(0, 40, 3, 10));
        Due.badArgument(x, "side below, rank above", () -> x.fixity(0, 40, -1, 10));
        Due.badArgument(x, "side above, rank below", () -> x.fixity(0, 40, 3, -1));
        Due.is("then it may be told", () -> x.fixity(0, 40, 2, 9), 0);
        looked(x, 0, 40, 2, 9, 0);
    }

    private static void sidesFromFirstToLast() {
        Due.about("Terms", "SIDES: 0 LEFT, 1 RIGHT, 2 NONE.");
        String[] trees = {"[[1 a 2] a 3]", "[1 a [2 a 3]]", "none"};
        for (int side = 0; side <= 2; side++) {
            Run x = new Run();
            x.fixity(0, 1, side, 4);
            Texts.row(x, "1 a 2 a 3");
            x.resolve(0);
            Due.text("the tree of 1 a 2 a 3 by side " + side, Texts.tree(x), trees[side]);
        }
        Run x = new Run();
        Due.badArgument(x, "side -1", () -> x.fixity(0, 1, -1, 4));
        Due.badArgument(x, "side 3", () -> x.fixity(0, 1, 3, 4));
    }

    private static void ranksFromFirstToLast() {
        Due.about("Terms", "RANKS 0 .. 9.");
        for (int rank = 0; rank < 9; rank++) {
            Run x = new Run();
            x.fixity(0, 1, 0, rank);
            x.fixity(0, 2, 0, rank + 1);
            Texts.row(x, "1 a 2 b 3 a 4");
            x.resolve(0);
            Due.text("the tree by ranks " + rank + " and " + (rank + 1), Texts.tree(x), "[[1 a [2 b 3]] a 4]");
        }
        Run x = new Run();
        Due.badArgument(x, "rank -1", () -> x.fixity(0, 1, 0, -1));
        Due.badArgument(x, "rank 10", () -> x.fixity(0, 1, 0, 10));
    }

    private static void fixityLeavesTheTree() {
        Due.about("Promise 3", "(The TREE stays as it is.)");
        Run x = Texts.with("bL7");
        Texts.row(x, "1 a 2 b 3");
        x.resolve(0);
        x.write(0);
        Texts.tell(x, 0, "aL6");
        Due.text("the tree", Texts.tree(x), "[[1 a 2] b 3]");
        Due.text("what was written", Texts.written(x), "#2 a #3 b #4");
        Due.is("told(4)", () -> x.told(4), 5);
        Due.is("told(5)", () -> x.told(5), 1);
        Due.is("told(6)", () -> x.told(6), 3);
        Due.is("same(0), by what is told now", () -> x.same(0), 0);
        Due.is("write(0), by what is told now", () -> x.write(0), 7);
        Due.is("resolve(0), by what is told now", () -> x.resolve(0), 5);
        Due.text("the tree then", Texts.tree(x), "[1 a [2 b 3]]");
        Due.is("told(5) then", () -> x.told(5), 2);
    }

    // Promise 4

    private static void lookedAnswers() {
        Due.about("Promise 4", "An operator's SIDE (what = 0), RANK (1) in a scope; the scope that tells it");
        Run x = full();
        x.fixity(17, 33, 1, 8);
        looked(x, 17, 33, 1, 8, 17);
        looked(x, 18, 33, 1, 8, 17);
        looked(x, 29, 33, 1, 8, 17);
        looked(x, 16, 33, 0, 9, NONE);
    }

    private static void lookedOfUntold() {
        Due.about("Promise 4", "NONE if none does (2)");
        Run x = full();
        for (int scope : new int[] {0, 1, 29}) {
            looked(x, scope, 1, 0, 9, NONE);
            looked(x, scope, 40, 0, 9, NONE);
        }
        Due.about("Terms", "if none does LEFT and 9");
        x.fixity(3, 40, 0, 9);
        looked(x, 3, 40, 0, 9, 3);
        looked(x, 2, 40, 0, 9, NONE);
    }

    private static void lookedOfMinus() {
        Due.about("Terms", "MINUS's are always LEFT and 6.");
        Run x = full();
        for (int scope = 0; scope < 30; scope++) {
            x.fixity(scope, 1, 1, 3);
            looked(x, scope, 0, 0, 6, NONE);
        }
    }

    private static void lookedAtTheNearest() {
        Due.about("Terms", "those that it tells, or else the nearest one around that does");
        Run x = new Run();
        x.scope(0);
        x.scope(1);
        x.scope(0);
        x.scope(2);
        x.fixity(1, 7, 1, 4);
        looked(x, 2, 7, 1, 4, 1);
        looked(x, 4, 7, 1, 4, 1);
        looked(x, 3, 7, 0, 9, NONE);
        looked(x, 0, 7, 0, 9, NONE);
        x.fixity(0, 7, 2, 2);
        looked(x, 4, 7, 1, 4, 1);
        looked(x, 3, 7, 2, 2, 0);
        x.fixity(2, 7, 0, 0);
        looked(x, 4, 7, 0, 0, 2);
        looked(x, 1, 7, 1, 4, 1);
        Run deep = full();
        deep.fixity(0, 40, 1, 3);
        looked(deep, 29, 40, 1, 3, 0);
    }

    private static void lookedAtNoScopeOrOperator() {
        Due.about("Promise 4", "IndexOutOfBounds");
        Run x = new Run();
        for (int scope : new int[] {-1, 1, 29, 30, LEAST, MOST}) {
            Due.outOfBounds(x, "scope " + scope, () -> x.looked(scope, 1, 0));
        }
        for (int operator : new int[] {-1, 41, 42, LEAST, MOST}) {
            Due.outOfBounds(x, "operator " + operator, () -> x.looked(0, operator, 0));
        }
        Run full = full();
        Due.is("looked(29, 40, 1)", () -> full.looked(29, 40, 1), 9);
        Due.outOfBounds(full, "scope 30", () -> full.looked(30, 0, 0));
        Due.outOfBounds(full, "operator 41 in scope 28", () -> full.looked(28, 41, 0));
        Due.outOfBounds(full, "operator -1 in scope 1", () -> full.looked(1, -1, 0));
        Due.about("Terms", "Of several the first one in this order.");
        Due.outOfBounds(x, "no scope, no what", () -> x.looked(1, 1, 3));
        Due.outOfBounds(x, "no operator, no what", () -> x.looked(0, 41, -1));
    }

    private static void lookedAtNoSuchWhat() {
        Due.about("Promise 4", "IllegalArgument.");
        Run x = new Run();
        x.fixity(0, 40, 1, 1);
        for (int what : new int[] {-1, 3, 4, LEAST, MOST}) {
            Due.badArgument(x, "MINUS, what " + what, () -> x.looked(0, 0, what));
            Due.badArgument(x, "an untold one, what " + what, () -> x.looked(0, 1, what));
            Due.badArgument(x, "a told one, what " + what, () -> x.looked(0, 40, what));
        }
    }
}

/** Promises 12, 13 and 18, and what the terms say of nodes: node, number, told. */
public final class TreeTest {
    private static final int NONE = FixityTrees.NONE;
    private static final int LEAST = Integer.MIN_VALUE;
    private static final int MOST = Integer.MAX_VALUE;
    private static final String FIXITIES = "aL6 bL7 rR5 sR8 qR6 nN4 mN7 lL3 pR3";

    public static void main(String[] args) {
        nodesOfEachKind();
        nodesInTheirOrder();
        nodesWithoutChildren();
        nodesOfOneAndOfTwoHundred();
        nodesPlacesStay();
        nodeIsNone();
        nodeOfNoTree();
        nodeOfNoSuchWhat();

        numbersOfOperands();
        numberOfNoNode();
        numberOfAnotherNode();
        numbersStay();

        toldItems();
        toldOpen();
        toldDue();
        toldScopes();
        toldNodes();
        toldWaiting();
        toldWaitingOfTheLatestWithoutClash();
        toldHeight();
        toldNoSuchWhat();
        Due.end();
    }

    private static Run holding(String items) {
        Run x = Texts.with(FIXITIES);
        Texts.row(x, items);
        return x;
    }

    private static Run resolved(String items) {
        Run x = holding(items);
        x.resolve(0);
        return x;
    }

    private static void nodes(String items, int[]... due) {
        Run x = resolved(items);
        for (int k = 0; k < due.length; k++) {
            for (int what = 0; what < 5; what++) {
                int node = k;
                int w = what;
                Due.is("node(" + k + ", " + what + ") of " + items, () -> x.node(node, w), due[k][what]);
            }
        }
        Due.outOfBounds(x, "one behind the last of " + items, () -> x.node(due.length, 0));
    }

    private static int[] node(int kind, int operator, int first, int second, int place) {
        return new int[] {kind, operator, first, second, place};
    }

    private static int[] leaf(int place) {
        return node(0, NONE, NONE, NONE, place);
    }

    // Promise 12

    private static void nodesOfEachKind() {
        Due.about("Promise 12", "0 OPERAND, 1 OPERATOR, 2 NEGATION, 3 LEFT SECTION, 4 RIGHT SECTION (what = 0)");
        nodes("7", leaf(0));
        nodes("7 a 8", node(1, 1, 1, 2, 1), leaf(0), leaf(2));
        nodes("7 - 8", node(1, 0, 1, 2, 1), leaf(0), leaf(2));
        nodes("- 7", node(2, 0, 1, NONE, 0), leaf(1));
        nodes("( 7 a )", node(3, 1, 1, NONE, 2), leaf(1));
        nodes("( 7 - )", node(3, 0, 1, NONE, 2), leaf(1));
        nodes("( a 7 )", node(4, 1, 1, NONE, 1), leaf(2));
        nodes("( - 7 )", node(2, 0, 1, NONE, 1), leaf(2));
        Due.about("Promise 12", "its operator, MINUS of a NEGATION (1), its first child (2), second (3)");
        nodes("- 7 b 8 a 9", node(1, 1, 1, 5, 4), node(2, 0, 2, NONE, 0), node(1, 2, 3, 4, 2), leaf(1), leaf(3), leaf(5));
        Run x = new Run();
        x.operand(7);
        x.operator(40);
        x.operand(8);
        x.resolve(0);
        Due.is("the last operator", () -> x.node(0, 1), 40);
    }

    private static void nodesInTheirOrder() {
        Due.about("Terms", "the root, then all of its first (left, or only) child, then all of the second");
        nodes("- 1 b 2 l ( 3 a 4 a ) l ( b 5 )",
                node(1, 12, 1, 10, 11), node(1, 12, 2, 6, 4), node(2, 0, 3, NONE, 0), node(1, 2, 4, 5, 2),
                leaf(1), leaf(3), node(3, 1, 7, NONE, 9), node(1, 1, 8, 9, 7), leaf(6), leaf(8),
                node(4, 2, 11, NONE, 13), leaf(14));
        nodes("1 r 2 r 3", node(1, 18, 1, 2, 1), leaf(0), node(1, 18, 3, 4, 3), leaf(2), leaf(4));
        nodes("1 a 2 a 3", node(1, 1, 1, 4, 3), node(1, 1, 2, 3, 1), leaf(0), leaf(2), leaf(4));
    }

    private static void nodesWithoutChildren() {
        Due.about("Promise 12", "NONE without.");
        nodes("( ( 1 ) )", leaf(2));
        nodes("- ( 1 a )", node(2, 0, 1, NONE, 0), node(3, 1, 2, NONE, 3), leaf(2));
        // Nothing stays of a tree that was there before.
        Run x = resolved("1 a 2 a 3");
        Texts.row(x, "- 9");
        x.resolve(0);
        Due.is("the negation's second child", () -> x.node(0, 3), NONE);
        Due.is("the operand's operator", () -> x.node(1, 1), NONE);
        Due.is("the operand's first child", () -> x.node(1, 2), NONE);
        Due.is("the operand's second child", () -> x.node(1, 3), NONE);
        Due.outOfBounds(x, "node(2, 0)", () -> x.node(2, 0));
        Due.outOfBounds(x, "node(4, 0)", () -> x.node(4, 0));
    }

    private static void nodesOfOneAndOfTwoHundred() {
        Due.about("Terms", "Nodes of the TREE are numbered from 0");
        Run one = resolved("( 1 )");
        Due.is("node(0, 4)", () -> one.node(0, 4), 1);
        Due.outOfBounds(one, "node(1, 4)", () -> one.node(1, 4));
        Run most = resolved("- " + Texts.times(99, "1 s") + " 1");
        Due.is("node(0, 0)", () -> most.node(0, 0), 2);
        Due.is("node(0, 2)", () -> most.node(0, 2), 1);
        Due.is("node(197, 2)", () -> most.node(197, 2), 198);
        Due.is("node(197, 3)", () -> most.node(197, 3), 199);
        Due.is("node(199, 0)", () -> most.node(199, 0), 0);
        Due.is("node(199, 4)", () -> most.node(199, 4), 199);
        Due.outOfBounds(most, "node(200, 0)", () -> most.node(200, 0));
    }

    private static void nodesPlacesStay() {
        Due.about("Promise 12", "its place in the row, of a section its operator's (4)");
        Run x = resolved("( ( 1 ) a ( 2 ) )");
        Due.is("the operator's", () -> x.node(0, 4), 4);
        Due.is("the left operand's", () -> x.node(1, 4), 2);
        Due.is("the right operand's", () -> x.node(2, 4), 6);
        x.write(0);
        x.take();
        Due.is("the operator's behind take()", () -> x.node(0, 4), 4);
        Due.is("same(0)", () -> x.same(0), 1);
        Due.is("the operator's behind same()", () -> x.node(0, 4), 4);
        x.resolve(0);
        Due.is("the operator's behind resolve()", () -> x.node(0, 4), 1);
    }

    private static void nodeIsNone() {
        Due.about("Promise 12", "IndexOutOfBounds");
        Run x = resolved("1 a 2");
        for (int k : new int[] {-1, 3, 4, 199, 200, LEAST, MOST}) {
            Due.outOfBounds(x, "node(" + k + ", 0)", () -> x.node(k, 0));
            Due.outOfBounds(x, "node(" + k + ", 4)", () -> x.node(k, 4));
        }
        Due.about("Terms", "Of several the first one in this order.");
        Due.outOfBounds(x, "node(3, 5)", () -> x.node(3, 5));
        Due.outOfBounds(x, "node(-1, -1)", () -> x.node(-1, -1));
    }

    private static void nodeOfNoTree() {
        Due.about("Promise 12", "IndexOutOfBounds");
        Run fresh = new Run();
        Run clash = resolved("1 a 2");
        Texts.row(clash, "1 n 2 n 3");
        clash.resolve(0);
        Run unresolved = holding("1 a 2");
        for (Run x : new Run[] {fresh, clash, unresolved}) {
            for (int k : new int[] {-1, 0, 1}) {
                Due.outOfBounds(x, "node(" + k + ", 0)", () -> x.node(k, 0));
                Due.outOfBounds(x, "node(" + k + ", 5)", () -> x.node(k, 5));
            }
        }
    }

    private static void nodeOfNoSuchWhat() {
        Due.about("Promise 12", "IllegalArgument.");
        Run x = resolved("- 1 a ( 2 b ) a ( c 3 )");
        for (int k = 0; k < 8; k++) {
            int node = k;
            for (int what : new int[] {-1, 5, 6, LEAST, MOST}) {
                Due.badArgument(x, "node(" + k + ", " + what + ")", () -> x.node(node, what));
            }
        }
    }

    // Promise 13

    private static void numbersOfOperands() {
        Due.about("Promise 13", "The number of an OPERAND of the TREE.");
        long[] numbers = {0, -1, Long.MIN_VALUE, Long.MAX_VALUE, 1L << 32, -(1L << 31) - 1};
        Run x = new Run();
        for (int i = 0; i < numbers.length; i++) {
            if (i > 0) {
                x.operator(1);
            }
            x.operand(numbers[i]);
        }
        x.resolve(0);
        // A LEFT chain: the operators are nodes 0 to 4, then all operands from the left.
        for (int i = 0; i < numbers.length; i++) {
            int k = i + 5;
            Due.is("number(" + k + ")", () -> x.number(k), numbers[i]);
        }
    }

    private static void numberOfNoNode() {
        Due.about("Promise 13", "IndexOutOfBounds");
        Run one = resolved("7");
        Due.is("number(0)", () -> one.number(0), 7);
        for (int k : new int[] {-1, 1, 2, 199, 200, LEAST, MOST}) {
            Due.outOfBounds(one, "number(" + k + ")", () -> one.number(k));
        }
        Run fresh = new Run();
        Due.outOfBounds(fresh, "number(0) of no tree", () -> fresh.number(0));
        Run clash = resolved("7");
        Texts.row(clash, "1 n 2 n 3");
        clash.resolve(0);
        Due.outOfBounds(clash, "number(0) behind a clash", () -> clash.number(0));
        Run most = resolved("- " + Texts.times(99, "1 s") + " 5");
        Due.is("number(199)", () -> most.number(199), 5);
        Due.outOfBounds(most, "number(200)", () -> most.number(200));
    }

    private static void numberOfAnotherNode() {
        Due.about("Promise 13", "also if the node is another one");
        Run operator = resolved("7 a 8");
        Due.outOfBounds(operator, "number of an operator", () -> operator.number(0));
        Run negation = resolved("- 7");
        Due.outOfBounds(negation, "number of a negation", () -> negation.number(0));
        Run left = resolved("( 7 a )");
        Due.outOfBounds(left, "number of a left section", () -> left.number(0));
        Run right = resolved("( a 7 )");
        Due.outOfBounds(right, "number of a right section", () -> right.number(0));
        for (Run x : new Run[] {operator, negation, left, right}) {
            Due.is("number of the operand", () -> x.number(1), 7);
        }
    }

    private static void numbersStay() {
        Due.about("Promise 5", "(The TREE stays.)");
        Run x = resolved("7 a 8");
        Texts.row(x, "5 a 6");
        Due.is("number(1)", () -> x.number(1), 7);
        Due.is("number(2)", () -> x.number(2), 8);
        Due.is("same(0)", () -> x.same(0), 0);
        Due.is("number(1) behind same()", () -> x.number(1), 7);
        x.resolve(0);
        Due.is("number(1) of the next tree", () -> x.number(1), 5);
    }

    // Promise 18

    private static void toldItems() {
        Due.about("Promise 18", "How many items the row has (what = 0)");
        Run x = new Run();
        Due.is("none", () -> x.told(0), 0);
        for (int size = 1; size <= 200; size++) {
            int s = size;
            Due.is("operator(0)", () -> x.operator(0), s);
            Due.is("told(0)", () -> x.told(0), s);
        }
        Due.badState(x, "the 201st", () -> x.operator(0));
        Due.is("told(0) of a full row", () -> x.told(0), 200);
        x.begin(false);
        Due.is("told(0) behind begin()", () -> x.told(0), 0);
    }

    private static void toldOpen() {
        Due.about("Promise 18", "brackets that are open (1)");
        Run x = new Run();
        Due.is("none", () -> x.told(1), 0);
        for (int open = 1; open <= 40; open++) {
            int o = open;
            x.open();
            Due.is("told(1)", () -> x.told(1), o);
        }
        Due.badState(x, "the 41st", () -> x.open());
        Due.is("told(1) still", () -> x.told(1), 40);
        x.operand(1);
        for (int open = 39; open >= 0; open--) {
            int o = open;
            x.close();
            Due.is("told(1)", () -> x.told(1), o);
        }
        Due.badState(x, "one close() too much", () -> x.close());
        Due.is("told(1) of none", () -> x.told(1), 0);
        Texts.row(x, "( (");
        x.begin(true);
        Due.is("told(1) behind begin()", () -> x.told(1), 0);
    }

    private static void due(String items, int due) {
        Due.is("told(2) of " + Texts.quoted(items), () -> holding(items).told(2), due);
    }

    private static void toldDue() {
        Due.about("Promise 18", "1 if an operand is DUE, else 0 (2)");
        for (String row : new String[] {"", "-", "1 a", "1 -", "(", "( a", "( 1 a", "( -", "( 1 ) a"}) {
            due(row, 1);
        }
        for (String row : new String[] {"1", "- 1", "1 a 2", "( 1", "( 1 )", "( 1 a )", "( a 1 )"}) {
            due(row, 0);
        }
        due(Texts.times(200, "-"), 1);
        due("- " + Texts.times(99, "1 a") + " 1", 0);
    }

    private static void toldScopes() {
        Due.about("Promise 18", "scopes (3)");
        Run x = new Run();
        Due.is("at first", () -> x.told(3), 1);
        for (int scopes = 2; scopes <= 30; scopes++) {
            int s = scopes;
            x.scope(0);
            Due.is("told(3)", () -> x.told(3), s);
        }
        Due.badState(x, "the 31st", () -> x.scope(0));
        Due.is("told(3) still", () -> x.told(3), 30);
    }

    private static void toldNodes() {
        Due.about("Promise 18", "nodes of the TREE, 0 without (4)");
        Run x = holding("1 a 2");
        Due.is("not resolved yet", () -> x.told(4), 0);
        x.resolve(0);
        Due.is("resolved", () -> x.told(4), 3);
        Texts.row(x, "( 1 )");
        Due.is("another row", () -> x.told(4), 3);
        x.resolve(0);
        Due.is("one node", () -> x.told(4), 1);
        Texts.row(x, "1 n 2 n 3");
        x.resolve(0);
        Due.is("a clash", () -> x.told(4), 0);
        Run most = resolved("- " + Texts.times(99, "1 s") + " 1");
        Due.is("200 nodes", () -> most.told(4), 200);
    }

    private static void waiting(String items, int most) {
        Run x = resolved(items);
        Due.is("told(5) of " + Texts.quoted(items), () -> x.told(5), most);
    }

    private static void toldWaiting() {
        Due.about("Promise 18", "how many waited at once, in all groups, at most (5)");
        waiting("1", 0);
        waiting("( 1 )", 0);
        waiting("- 1", 1);
        waiting("( a 1 )", 1);
        waiting("( 1 a )", 1);
        waiting("1 a 2 a 3 a 4", 1);
        waiting("1 r 2 r 3 r 4", 3);
        waiting("1 l 2 r 3 b 4 l 5", 3);
        waiting("1 l ( 2 l ( 3 l 4 ) )", 3);
        waiting("( 1 a 2 ) a ( 3 a 4 )", 2);
        waiting("( 1 r 2 r 3 ) a 4", 2);
        waiting("( a 1 b 2 )", 2);
        waiting("1 l ( 2 a )", 2);
        waiting("1 r - 2 b 3", 3);
        Due.about("Terms", "(the one that begins a RIGHT SECTION, too)");
        waiting("( l 1 r 2 a 3 )", 3);
        waiting("1 l ( l - 2 )", 3);
        Due.about("Terms", "then all that wait in the group are done");
        waiting("( 1 r 2 r 3 ) r ( 4 r 5 )", 2);
        waiting("( l 1 r 2 ) r ( 3 r )", 2);
        waiting("( - 1 ) l ( - 2 ) l ( - 3 )", 2);
        Due.about("Promise 18", "how many waited at once, in all groups, at most (5)");
        waiting("- " + Texts.times(99, "1 s") + " 1", 100);
        waiting(Texts.times(66, "- 1 r") + " - 1", 67);
        waiting(Texts.times(40, "- (") + " 1 " + Texts.times(40, ")"), 40);
        waiting(Texts.times(40, "1 r ( ") + " 1 r 2 " + Texts.times(39, ")") + " )", 41);
    }

    private static void toldWaitingOfTheLatestWithoutClash() {
        Due.about("Promise 18", "of the latest resolve() that had no CLASH");
        Run fresh = holding("1 n 2 n 3");
        Due.is("before any", () -> fresh.told(5), 0);
        fresh.resolve(0);
        Due.is("a clash alone", () -> fresh.told(5), 0);
        Run x = resolved("1 r 2 r 3");
        Texts.row(x, "1 l 2 r 3 a 4 b - 5");
        x.resolve(0);
        Due.is("behind a clash", () -> x.told(5), 2);
        x.begin(true);
        Due.is("behind begin()", () -> x.told(5), 2);
        Due.badState(x, "a resolve() that is refused", () -> x.resolve(0));
        Due.is("behind it", () -> x.told(5), 2);
        Texts.row(x, "1");
        x.resolve(0);
        Due.is("behind the next", () -> x.told(5), 0);
        Texts.row(x, "1 l 2 r 3 a 4 b 5");
        Due.is("same(0) of a row where more wait", () -> x.same(0), 0);
        Due.is("behind same()", () -> x.told(5), 0);
    }

    private static void height(String items, int most) {
        Run x = resolved(items);
        Due.is("told(6) of " + Texts.quoted(items), () -> x.told(6), most);
    }

    private static void toldHeight() {
        Due.about("Promise 18", "the most nodes one below the other (6), 0 without");
        height("1", 1);
        height("( ( 1 ) )", 1);
        height("- 1", 2);
        height("( 1 a )", 2);
        height("( a 1 )", 2);
        height("1 a 2 a 3", 3);
        height("1 r 2 r 3 r 4", 4);
        height("( 1 a 2 ) a ( 3 a 4 )", 3);
        height("( 1 a 2 a 3 ) a ( 4 a 5 )", 4);
        height("( n - 1 )", 3);
        height("- ( 1 a )", 3);
        height("- " + Texts.times(99, "1 s") + " 1", 101);
        height(Texts.times(99, "1 a") + " 1", 100);
        height(Texts.times(40, "- (") + " - 1 " + Texts.times(40, ")"), 42);
        Run x = holding("1 n 2 n 3");
        Due.is("without a resolve()", () -> x.told(6), 0);
        x.resolve(0);
        Due.is("with a clash", () -> x.told(6), 0);
        Texts.row(x, "1 n 2");
        x.resolve(0);
        x.begin(false);
        Due.is("behind begin()", () -> x.told(6), 2);
        Texts.row(x, "1 r 2 r 3");
        Due.is("same(0) of a higher one", () -> x.same(0), 0);
        Due.is("behind same()", () -> x.told(6), 2);
        Texts.row(x, "1 n 2 n 3");
        x.resolve(0);
        Due.is("behind a clash", () -> x.told(6), 0);
    }

    private static void toldNoSuchWhat() {
        Due.about("Promise 18", "IllegalArgument.");
        Run fresh = new Run();
        Run tree = resolved("1 a 2");
        Run clash = resolved("1 n 2 n 3");
        for (Run x : new Run[] {fresh, tree, clash}) {
            for (int what : new int[] {-1, 7, 8, LEAST, MOST}) {
                Due.badArgument(x, "told(" + what + ")", () -> x.told(what));
            }
        }
    }
}

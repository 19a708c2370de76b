/** Promises 14 and 15, and what the terms say of what FITS: write, written. */
public final class WriteTest {
    private static final int NONE = FixityTrees.NONE;
    private static final int LEAST = Integer.MIN_VALUE;
    private static final int MOST = Integer.MAX_VALUE;
    private static final int MINUS_RANK = 6;
    private static final String FIXITIES = "aL6 bL7 rR5 sR8 qR6 nN4 mN7 lL3 pR3";

    public static void main(String[] args) {
        eachOperatorBelowAnOperator();
        eachOperatorBelowANegation();
        eachNegationBelowAnOperator();
        eachChildOfARightSection();
        eachChildOfALeftSection();
        noBracketsRoundTheRoot();
        sectionsHaveTheirs();
        childrenThatStoodInBrackets();
        writeByTheScope();
        writeOneItem();
        writeTheMost();
        writeByNoScope();
        writeWithoutATree();
        writeLeavesTheTreeAndTheRow();

        writtenItemsOfEachKind();
        writtenNodesOfBrackets();
        writtenIsTheLatest();
        writtenIsNone();
        writtenOfNothing();
        writtenOfNoSuchWhat();
        Due.end();
    }

    private static Run resolved(String items) {
        Run x = Texts.with(FIXITIES);
        Texts.row(x, items);
        x.resolve(0);
        return x;
    }

    /** Operands stand in what was written in the order that they had, so that only their nodes differ. */
    private static String shape(String written) {
        return written.replaceAll("#[0-9]+", "#");
    }

    private static void written(Run x, String name, String due) {
        Due.is("write(0) of " + name, () -> x.write(0), Texts.size(due));
        Due.text("written of " + name, shape(Texts.written(x)), due);
        Due.is("take() of " + name, () -> x.take(), Texts.size(due));
        Due.is("same(0) of " + name, () -> x.same(0), 1);
    }

    private static void written(String items, String due) {
        written(resolved(items), items, due);
    }

    // Promise 14

    /** Resolves the items by operators w and o, and asks what is written of their tree. */
    private static void pair(int side, int rank, int otherSide, int otherRank, String items, String due) {
        Run x = Pairs.with(side, rank, otherSide, otherRank);
        Texts.row(x, items);
        x.resolve(0);
        written(x, items + ", w " + Pairs.name(side, rank) + ", o " + Pairs.name(otherSide, otherRank), due);
    }

    private static void eachOperatorBelowAnOperator() {
        Due.about("Terms", "FITS: its RANK is above that of its parent, or it is the same, both have one SIDE, that is LEFT, "
                + "and the child is on the left, or it is RIGHT, and the child on the right");
        Pairs.each((side, rank, otherSide, otherRank) -> {
            boolean left = Pairs.fits(Pairs.LEFT, side, rank, otherSide, otherRank);
            pair(side, rank, otherSide, otherRank, "( 1 w 2 ) o 3", left ? "# w # o #" : "( # w # ) o #");
            boolean right = Pairs.fits(Pairs.RIGHT, side, rank, otherSide, otherRank);
            pair(side, rank, otherSide, otherRank, "1 o ( 2 w 3 )", right ? "# o # w #" : "# o ( # w # )");
        });
    }

    private static void eachOperatorBelowANegation() {
        Due.about("Terms", "(the one of a NEGATION, of a RIGHT SECTION is on the right");
        for (int side = 0; side < Pairs.SIDES; side++) {
            for (int rank = 0; rank < Pairs.RANKS; rank++) {
                boolean fits = Pairs.fits(Pairs.RIGHT, side, rank, Pairs.LEFT, MINUS_RANK);
                pair(side, rank, 0, 0, "- ( 1 w 2 )", fits ? "- # w #" : "- ( # w # )");
            }
        }
        written("- ( - 1 )", "- ( - # )");
        written("- ( 1 - 2 )", "- ( # - # )");
    }

    private static void eachNegationBelowAnOperator() {
        Due.about("Terms", "NEGATION with one (its RANK 6, SIDE LEFT)");
        for (int side = 0; side < Pairs.SIDES; side++) {
            for (int rank = 0; rank < Pairs.RANKS; rank++) {
                boolean left = Pairs.fits(Pairs.LEFT, Pairs.LEFT, MINUS_RANK, side, rank);
                pair(0, 0, side, rank, "( - 1 ) o 2", left ? "- # o #" : "( - # ) o #");
                boolean right = Pairs.fits(Pairs.RIGHT, Pairs.LEFT, MINUS_RANK, side, rank);
                pair(0, 0, side, rank, "1 o ( - 2 )", right ? "# o - #" : "# o ( - # )");
            }
        }
        written("( - 1 ) - 2", "- # - #");
        written("1 - ( - 2 )", "# - ( - # )");
    }

    private static void eachChildOfARightSection() {
        Due.about("Terms", "(the one of a NEGATION, of a RIGHT SECTION is on the right");
        Pairs.each((side, rank, otherSide, otherRank) -> {
            boolean fits = Pairs.fits(Pairs.RIGHT, side, rank, otherSide, otherRank);
            pair(side, rank, otherSide, otherRank, "( o ( 1 w 2 ) )", fits ? "( o # w # )" : "( o ( # w # ) )");
        });
        for (int side = 0; side < Pairs.SIDES; side++) {
            for (int rank = 0; rank < Pairs.RANKS; rank++) {
                boolean fits = Pairs.fits(Pairs.RIGHT, Pairs.LEFT, MINUS_RANK, side, rank);
                pair(0, 0, side, rank, "( o ( - 1 ) )", fits ? "( o - # )" : "( o ( - # ) )");
            }
        }
    }

    private static void eachChildOfALeftSection() {
        Due.about("Terms", "of a LEFT SECTION on the left)");
        Pairs.each((side, rank, otherSide, otherRank) -> {
            boolean fits = Pairs.fits(Pairs.LEFT, side, rank, otherSide, otherRank);
            pair(side, rank, otherSide, otherRank, "( ( 1 w 2 ) o )", fits ? "( # w # o )" : "( ( # w # ) o )");
        });
        for (int side = 0; side < Pairs.SIDES; side++) {
            for (int rank = 0; rank < Pairs.RANKS; rank++) {
                boolean fits = Pairs.fits(Pairs.LEFT, Pairs.LEFT, MINUS_RANK, side, rank);
                pair(0, 0, side, rank, "( ( - 1 ) o )", fits ? "( - # o )" : "( ( - # ) o )");
            }
        }
    }

    private static void noBracketsRoundTheRoot() {
        Due.about("Promise 14", "each child that does not FIT by that scope, and no other one, has brackets of its own");
        written("( ( 1 ) )", "#");
        written("( 1 n 2 )", "# n #");
        written("( - 1 )", "- #");
        written("( ( 1 l 2 ) )", "# l #");
        written("( ( 1 ) a ( 2 ) )", "# a #");
        written("- ( 1 )", "- #");
    }

    private static void sectionsHaveTheirs() {
        Due.about("Promise 14", "(sections have theirs)");
        written("( ( a 1 ) )", "( a # )");
        written("( ( 1 a ) )", "( # a )");
        written("- ( 1 a )", "- ( # a )");
        written("- ( a 1 )", "- ( a # )");
        written("( ( 1 a ) b ( c 2 ) )", "( # a ) b ( c # )");
        written("( ( 1 a ) a )", "( ( # a ) a )");
        written("( a ( a 1 ) )", "( a ( a # ) )");
        written("( a ( ( 1 a ) ) )", "( a ( # a ) )");
    }

    private static void childrenThatStoodInBrackets() {
        Due.about("Promise 14", "as a row in which each child that does not FIT by that scope, and no other one");
        written("( 1 b 2 ) a ( 3 b 4 )", "# b # a # b #");
        written("( ( 1 l 2 ) n 3 ) b ( 4 s ( 5 r 6 ) )", "( ( # l # ) n # ) b # s ( # r # )");
        written("1 r ( - ( 2 b 3 ) )", "# r - # b #");
        written("( n ( - ( 1 a 2 ) ) )", "( n - ( # a # ) )");
        written("( 1 l 2 ) p ( 3 l 4 )", "( # l # ) p ( # l # )");
    }

    private static void writeByTheScope() {
        Due.about("Promise 14", "The TREE is WRITTEN by a scope");
        Run x = resolved("1 a 2 b 3");
        x.scope(0);
        Texts.tell(x, 1, "aR9");
        x.scope(0);
        Texts.tell(x, 2, "aL9 bL9");
        x.scope(2);
        Texts.tell(x, 3, "bR9 aR9");
        for (int scope = 4; scope < 30; scope++) {
            x.scope(scope == 4 ? 1 : scope - 1);
        }
        String bare = "#1 a #3 b #4";
        String brackets = "#1 a ( #3 b #4 )";
        int[] scopes = {0, 1, 2, 3, 29};
        String[] due = {bare, brackets, brackets, bare, brackets};
        for (int i = 0; i < scopes.length; i++) {
            int scope = scopes[i];
            Due.is("write(" + scope + ")", () -> x.write(scope), Texts.size(due[i]));
            Due.text("by scope " + scope, Texts.written(x), due[i]);
        }
    }

    private static void writeOneItem() {
        Due.about("Promise 14", "how many items");
        Run x = resolved("( ( ( 1 ) ) )");
        Due.is("write(0)", () -> x.write(0), 1);
        Due.is("its kind", () -> x.written(0, 0), 0);
        Due.is("its node", () -> x.written(0, 2), 0);
        Due.outOfBounds(x, "written(1, 0)", () -> x.written(1, 0));
    }

    // By scope 0 none of 200 nodes needs brackets, by scope 1 each child but an operand does.
    private static void writeTheMost() {
        Due.about("Promise 14", "how many items");
        Run x = Texts.with("rR5");
        x.scope(0);
        Texts.tell(x, 1, "rL9");
        Texts.row(x, Texts.times(66, "- 1 r") + " - 1");
        Due.is("resolve(0)", () -> x.resolve(0), 200);
        Due.is("write(0)", () -> x.write(0), 200);
        Due.is("write(1)", () -> x.write(1), 200 + 2 * (67 + 65));
        Due.text("what was written", shape(Texts.written(x)),
                Texts.times(65, "( - # ) r (") + " ( - # ) r ( - # ) " + Texts.times(65, ")"));
        Due.is("the last item", () -> x.written(463, 0), 4);
        Due.is("the last item's node", () -> x.written(463, 2), 3);
        Due.outOfBounds(x, "one behind", () -> x.written(464, 0));
        Run chain = Texts.with("rR5");
        chain.scope(0);
        Texts.tell(chain, 1, "rL5");
        Texts.row(chain, Texts.times(99, "1 r") + " 1");
        chain.resolve(0);
        Due.is("a chain of 100 operands", () -> chain.write(1), 199 + 2 * 98);
        Run deep = resolved(Texts.times(40, "- (") + " - 1 " + Texts.times(40, ")"));
        Due.is("41 negations", () -> deep.write(0), 42 + 2 * 40);
        Run sections = resolved(Texts.times(40, "(") + " 1 " + Texts.times(40, "a )"));
        Due.is("40 sections", () -> sections.write(0), 41 + 2 * 40);
    }

    private static void writeByNoScope() {
        Due.about("Promise 14", "IndexOutOfBounds");
        Run x = resolved("( 1 l 2 ) b 3");
        x.write(0);
        for (int scope : new int[] {-1, 1, 29, 30, LEAST, MOST}) {
            Due.outOfBounds(x, "write(" + scope + ")", () -> x.write(scope));
        }
        Due.about("Terms", "Of several the first one in this order.");
        Run fresh = new Run();
        Due.outOfBounds(fresh, "write(1) of no tree", () -> fresh.write(1));
        Due.outOfBounds(fresh, "write(-1) of no tree", () -> fresh.write(-1));
    }

    private static void writeWithoutATree() {
        Due.about("Promise 14", "IllegalState: there is no TREE.");
        Run fresh = new Run();
        Due.badState(fresh, "write(0) at first", () -> fresh.write(0));
        Run unresolved = Texts.with(FIXITIES);
        Texts.row(unresolved, "1 a 2");
        Due.badState(unresolved, "write(0) before resolve()", () -> unresolved.write(0));
        Run clash = resolved("1 n 2");
        clash.write(0);
        Texts.row(clash, "1 n 2 n 3");
        clash.resolve(0);
        Due.badState(clash, "write(0) behind a clash", () -> clash.write(0));
        Due.text("what was written stays", Texts.written(clash), "#1 n #2");
    }

    private static void writeLeavesTheTreeAndTheRow() {
        Due.about("Promise 14", "The TREE is WRITTEN by a scope");
        Run x = resolved("( 1 l 2 ) b 3");
        Texts.row(x, "( 9");
        x.write(0);
        Due.text("the tree", Texts.tree(x), "[[1 l 2] b 3]");
        Due.is("told(0)", () -> x.told(0), 2);
        Due.is("told(1)", () -> x.told(1), 1);
        Due.is("told(2)", () -> x.told(2), 0);
        Due.is("the row goes on", () -> x.close(), 3);
    }

    // Promise 15

    private static void items(Run x, int[]... due) {
        for (int i = 0; i < due.length; i++) {
            for (int what = 0; what < 3; what++) {
                int item = i;
                int w = what;
                Due.is("written(" + i + ", " + what + ")", () -> x.written(item, w), due[i][what]);
            }
        }
        Due.outOfBounds(x, "written(" + due.length + ", 0)", () -> x.written(due.length, 0));
    }

    private static int[] item(int kind, int operator, int node) {
        return new int[] {kind, operator, node};
    }

    private static void writtenItemsOfEachKind() {
        Due.about("Promise 15", "0 OPERAND, 1 operator, 2 NEGATION, 3 OPEN, 4 CLOSE (what = 0); its operator (1; MINUS of a NEGATION)");
        Run x = resolved("( ( - 1 ) b 2 ) l ( 3 - )");
        x.write(0);
        items(x, item(3, NONE, 2), item(2, 0, 2), item(0, NONE, 3), item(4, NONE, 2), item(1, 2, 1), item(0, NONE, 4),
                item(1, 12, 0), item(3, NONE, 5), item(0, NONE, 6), item(1, 0, 5), item(4, NONE, 5));
        Run last = new Run();
        last.operand(1);
        last.operator(40);
        last.operand(2);
        last.resolve(0);
        last.write(0);
        items(last, item(0, NONE, 1), item(1, 40, 0), item(0, NONE, 2));
    }

    private static void writtenNodesOfBrackets() {
        Due.about("Promise 15", "the node that it is of, for brackets that one in them (2); NONE without");
        Run right = resolved("( b 1 )");
        right.write(0);
        items(right, item(3, NONE, 0), item(1, 2, 0), item(0, NONE, 1), item(4, NONE, 0));
        Run left = resolved("( 1 b )");
        left.write(0);
        items(left, item(3, NONE, 0), item(0, NONE, 1), item(1, 2, 0), item(4, NONE, 0));
        Run two = resolved("( b ( 1 l 2 ) )");
        two.write(0);
        items(two, item(3, NONE, 0), item(1, 2, 0), item(3, NONE, 1), item(0, NONE, 2), item(1, 12, 1), item(0, NONE, 3),
                item(4, NONE, 1), item(4, NONE, 0));
    }

    private static void writtenIsTheLatest() {
        Due.about("Promise 15", "Item i of what was WRITTEN latest");
        Run x = resolved("( 1 l 2 ) b 3");
        x.write(0);
        String before = Texts.written(x);
        Texts.row(x, "- 5");
        x.resolve(0);
        Due.text("behind another resolve()", Texts.written(x), before);
        Texts.row(x, "1 n 2 n 3");
        x.resolve(0);
        Due.text("behind a clash", Texts.written(x), before);
        x.take();
        Due.text("behind take()", Texts.written(x), before);
        x.begin(true);
        Due.text("behind begin()", Texts.written(x), before);
        Texts.row(x, "4");
        x.resolve(0);
        x.write(0);
        items(x, item(0, NONE, 0));
    }

    private static void writtenIsNone() {
        Due.about("Promise 15", "IndexOutOfBounds");
        Run x = resolved("1 a 2");
        x.write(0);
        for (int i : new int[] {-1, 3, 4, 199, 200, 599, 600, LEAST, MOST}) {
            Due.outOfBounds(x, "written(" + i + ", 0)", () -> x.written(i, 0));
            Due.outOfBounds(x, "written(" + i + ", 2)", () -> x.written(i, 2));
        }
        Due.about("Terms", "Of several the first one in this order.");
        Due.outOfBounds(x, "written(3, 3)", () -> x.written(3, 3));
        Due.outOfBounds(x, "written(-1, -1)", () -> x.written(-1, -1));
    }

    private static void writtenOfNothing() {
        Due.about("Promise 15", "IndexOutOfBounds");
        Run fresh = new Run();
        Run resolved = resolved("1 a 2");
        for (Run x : new Run[] {fresh, resolved}) {
            for (int i : new int[] {-1, 0, 1}) {
                Due.outOfBounds(x, "written(" + i + ", 0)", () -> x.written(i, 0));
                Due.outOfBounds(x, "written(" + i + ", 3)", () -> x.written(i, 3));
            }
        }
    }

    private static void writtenOfNoSuchWhat() {
        Due.about("Promise 15", "IllegalArgument.");
        Run x = resolved("- ( 1 a 2 )");
        x.write(0);
        for (int i = 0; i < 6; i++) {
            int item = i;
            for (int what : new int[] {-1, 3, 4, LEAST, MOST}) {
                Due.badArgument(x, "written(" + i + ", " + what + ")", () -> x.written(item, what));
            }
        }
    }
}

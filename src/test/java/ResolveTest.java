/** Promises 10 to 13 and what told() says of the tree: resolve, clash, node, number. */
public final class ResolveTest {
    // LEFT a 6, b 7; RIGHT r 5, s 8, q 6; NONE n 4, m 7; l 3 LEFT, p 3 RIGHT.
    private static final String FIXITIES = "aL6 bL7 rR5 sR8 qR6 nN4 mN7 lL3 pR3";

    public static void main(String[] args) {
        ranksAndSides();
        negations();
        brackets();
        sections();
        patterns();
        clashesOfSides();
        clashesOfNegations();
        clashesInSections();
        clashesInPatterns();
        firstClashEnds();
        groupsAreApart();
        scopesTell();
        resolveRefuses();
        clashIsOfTheLatest();
        nodes();
        numbers();
        waiting();
        heights();
        limits();
        toldRefuses();
        Due.end();
    }

    private static FixityTrees holding(String items, boolean pattern) {
        FixityTrees x = Texts.with(FIXITIES);
        x.begin(pattern);
        Texts.items(x, items);
        return x;
    }

    private static void tree(String items, String tree, int nodes) {
        tree(items, tree, nodes, false);
    }

    private static void tree(String items, String tree, int nodes, boolean pattern) {
        FixityTrees x = holding(items, pattern);
        Due.is("resolve " + items, () -> x.resolve(0), nodes);
        Due.text("tree of " + items, Texts.tree(x), tree);
        Due.is("told(4) of " + items, () -> x.told(4), nodes);
        for (int what = 0; what < 3; what++) {
            int w = what;
            Due.is("clash(" + w + ") of " + items, () -> x.clash(w), FixityTrees.NONE);
        }
    }

    private static void clash(String items, int kind, int waited, int other) {
        clash(items, kind, waited, other, false);
    }

    private static void clash(String items, int kind, int waited, int other, boolean pattern) {
        FixityTrees x = holding(items, pattern);
        Due.is("resolve " + items, () -> x.resolve(0), FixityTrees.NONE);
        Due.is("clash(0) of " + items, () -> x.clash(0), kind);
        Due.is("clash(1) of " + items, () -> x.clash(1), waited);
        Due.is("clash(2) of " + items, () -> x.clash(2), other);
        Due.is("told(4) of " + items, () -> x.told(4), 0);
        Due.is("told(6) of " + items, () -> x.told(6), 0);
        Due.outOfBounds(x, "node(0, 0) of " + items, () -> x.node(0, 0));
    }

    private static void ranksAndSides() {
        tree("1", "1", 1);
        tree("1 a 2", "[1 a 2]", 3);
        tree("1 a 2 b 3", "[1 a [2 b 3]]", 5);
        tree("1 b 2 a 3", "[[1 b 2] a 3]", 5);
        tree("1 a 2 a 3", "[[1 a 2] a 3]", 5);
        tree("1 r 2 r 3", "[1 r [2 r 3]]", 5);
        tree("1 r 2 a 3 b 4 a 5 r 6", "[1 r [[[2 a [3 b 4]] a 5] r 6]]", 11);
        tree("1 n 2 b 3", "[1 n [2 b 3]]", 5);
        tree("1 b 2 n 3", "[[1 b 2] n 3]", 5);
        tree("1 n 2 l 3 n 4", "[[1 n 2] l [3 n 4]]", 7);
        // Operators that no scope tells are LEFT, of rank 9.
        tree("1 y 2 z 3 s 4", "[[[1 y 2] z 3] s 4]", 7);
    }

    private static void negations() {
        tree("- 1", "[- 1]", 2);
        tree("- 1 a 2", "[[- 1] a 2]", 4);
        tree("- 1 - 2", "[[- 1] - 2]", 4);
        tree("1 - 2 - 3", "[[1 - 2] - 3]", 5);
        tree("1 a 2 - 3 a 4", "[[[1 a 2] - 3] a 4]", 7);
        tree("- 1 b 2", "[- [1 b 2]]", 4);
        tree("- 1 b 2 a 3", "[[- [1 b 2]] a 3]", 6);
        tree("- 1 r 2", "[[- 1] r 2]", 4);
        tree("1 r - 2", "[1 r [- 2]]", 4);
        tree("1 r - 2 r 3", "[1 r [[- 2] r 3]]", 6);
        tree("1 n - 2 s 3", "[1 n [- [2 s 3]]]", 6);
        tree("- ( - 1 )", "[- [- 1]]", 3);
        tree("1 a ( - 2 )", "[1 a [- 2]]", 4);
    }

    private static void brackets() {
        tree("( 1 )", "1", 1);
        tree("( ( 1 ) )", "1", 1);
        tree("( 1 a 2 ) b 3", "[[1 a 2] b 3]", 5);
        tree("1 a ( 2 a 3 )", "[1 a [2 a 3]]", 5);
        tree("( 1 r 2 ) r 3", "[[1 r 2] r 3]", 5);
        tree("( 1 n 2 ) n ( 3 n 4 )", "[[1 n 2] n [3 n 4]]", 7);
        tree("- ( 1 a 2 )", "[- [1 a 2]]", 4);
    }

    private static void sections() {
        tree("( a 1 )", "[_ a 1]", 2);
        tree("( 1 a )", "[1 a _]", 2);
        tree("( 1 - )", "[1 - _]", 2);
        tree("( a 1 b 2 )", "[_ a [1 b 2]]", 4);
        tree("( r 1 r 2 )", "[_ r [1 r 2]]", 4);
        tree("( 1 a 2 a )", "[[1 a 2] a _]", 4);
        tree("( 1 b 2 a )", "[[1 b 2] a _]", 4);
        tree("( - 1 a )", "[[- 1] a _]", 3);
        tree("( n - 1 )", "[_ n [- 1]]", 3);
        tree("( n - 1 b 2 )", "[_ n [- [1 b 2]]]", 5);
        tree("( n 1 )", "[_ n 1]", 2);
        tree("( 1 n )", "[1 n _]", 2);
        tree("( a 1 ) b ( 2 a )", "[[_ a 1] b [2 a _]]", 5);
        tree("- ( 1 a )", "[- [1 a _]]", 3);
        tree("( a ( 1 a ) )", "[_ a [1 a _]]", 3);
        tree("( ( a 1 ) a )", "[[_ a 1] a _]", 3);
        tree("( ( a 1 ) )", "[_ a 1]", 2);
        tree("( b ( 1 a 2 ) )", "[_ b [1 a 2]]", 4);
        tree("( ( 1 r 2 ) b )", "[[1 r 2] b _]", 4);
    }

    private static void patterns() {
        tree("- 1", "[- 1]", 2, true);
        tree("- 1 a 2", "[[- 1] a 2]", 4, true);
        tree("- 1 r 2", "[[- 1] r 2]", 4, true);
        tree("1 r - 2 r 3", "[1 r [[- 2] r 3]]", 6, true);
        tree("( - 1 ) b 2", "[[- 1] b 2]", 4, true);
        tree("1 b 2 - 3", "[[1 b 2] - 3]", 5, true);
    }

    private static void clashesOfSides() {
        clash("1 n 2 n 3", 1, 1, 3);
        clash("1 l 2 p 3", 1, 1, 3);
        clash("1 p 2 l 3", 1, 1, 3);
        clash("1 b 2 m 3", 1, 1, 3);
        clash("1 m 2 b 3", 1, 1, 3);
        clash("1 n 2 b 3 n 4", 1, 1, 5);
        clash("1 n ( 2 n 3 ) n 4", 1, 1, 7);
        clash("1 - 2 q 3", 1, 1, 3);
        clash("- 1 q 2", 1, 0, 2);
        clash("1 q 2 - 3", 1, 1, 3);
        clash("( m 1 b 2 )", 1, 1, 3);
        clash("( n 1 n 2 )", 1, 1, 3);
        clash("( 1 n 2 n )", 1, 2, 4);
        clash("1 l 2 b 3 a 4 p 5", 1, 1, 7);
    }

    private static void clashesOfNegations() {
        clash("- - 1", 2, 0, 1);
        clash("1 a - 2", 2, 1, 2);
        clash("1 - - 2", 2, 1, 2);
        clash("1 b - 2", 2, 1, 2);
        clash("1 q - 2", 2, 1, 2);
        clash("1 n 2 s - 3", 2, 3, 4);
        clash("( a - 1 )", 2, 1, 2);
        clash("1 r - - 2", 2, 2, 3);
        clash("1 a - 2", 2, 1, 2, true);
    }

    private static void clashesInSections() {
        clash("( b 1 a 2 )", 3, 1, 3);
        clash("( a 1 a 2 )", 3, 1, 3);
        clash("( a 1 b 2 l 3 )", 3, 1, 5);
        clash("( a 1 - 2 )", 3, 1, 3);
        clash("( 1 a 2 b )", 3, 2, 4);
        clash("( 1 r 2 r )", 3, 2, 4);
        clash("( 1 l 2 r 3 b )", 3, 4, 6);
        clash("( - 1 b )", 3, 1, 3);
        clash("1 l ( 2 r 3 a )", 3, 4, 6);
        clash("( 1 n ( 2 a ) b )", 3, 2, 7);
    }

    private static void clashesInPatterns() {
        clash("- 1 b 2", 4, 0, 2, true);
        clash("1 r - 2 s 3", 4, 2, 4, true);
        clash("( - 1 z 2 )", 4, 1, 3, true);
        clash("- 1 q 2", 1, 0, 2, true);
    }

    private static void firstClashEnds() {
        clash("1 n 2 n 3 a - 4", 1, 1, 3);
        clash("1 a - 4 n 2 n 3", 2, 1, 2);
        clash("( 1 a 2 b ) a - 3", 3, 2, 4);
    }

    private static void groupsAreApart() {
        tree("1 b ( - 2 )", "[1 b [- 2]]", 4);
        tree("1 n ( 2 n 3 )", "[1 n [2 n 3]]", 5);
        tree("1 b ( 2 l 3 ) b 4", "[[1 b [2 l 3]] b 4]", 7);
        tree("( b ( 1 l 2 ) )", "[_ b [1 l 2]]", 4);
        tree("1 l ( 2 a )", "[1 l [2 a _]]", 4);
        tree("1 s ( a 2 )", "[1 s [_ a 2]]", 4);
    }

    private static void scopesTell() {
        FixityTrees x = Texts.with(FIXITIES);
        x.scope(0);
        Texts.tell(x, 1, "aR9");
        Texts.row(x, "1 a 2 b 3 a 4");
        Due.is("by scope 0", () -> x.resolve(0), 7);
        Due.text("by scope 0", Texts.tree(x), "[[1 a [2 b 3]] a 4]");
        Due.is("by scope 1", () -> x.resolve(1), 7);
        Due.text("by scope 1", Texts.tree(x), "[[1 a 2] b [3 a 4]]");
    }

    private static void resolveRefuses() {
        FixityTrees x = Texts.with(FIXITIES);
        Due.badState(x, "an empty row", () -> x.resolve(0));
        Due.outOfBounds(x, "an empty row by no scope", () -> x.resolve(1));
        Texts.row(x, "1 a 2");
        x.resolve(0);
        Texts.items(x, "a");
        Due.badState(x, "an operand is due", () -> x.resolve(0));
        Due.outOfBounds(x, "by no scope", () -> x.resolve(-1));
        Texts.items(x, "( 3");
        Due.badState(x, "a bracket is open", () -> x.resolve(0));
        Texts.row(x, "-");
        Due.badState(x, "behind a negation", () -> x.resolve(0));
        Due.text("the tree stays", Texts.tree(x), "[1 a 2]");
        Texts.row(x, "3");
        Due.outOfBounds(x, "by no scope", () -> x.resolve(30));
        Due.is("the row stays", () -> x.told(0), 1);
    }

    private static void clashIsOfTheLatest() {
        FixityTrees x = Texts.with(FIXITIES);
        Texts.row(x, "1 n 2 n 3");
        x.resolve(0);
        x.begin(true);
        Due.badState(x, "resolve that throws", () -> x.resolve(0));
        Due.is("clash(0) stays", () -> x.clash(0), 1);
        Due.badArgument(x, "clash(3)", () -> x.clash(3));
        Due.badArgument(x, "clash(-1)", () -> x.clash(-1));
        Texts.row(x, "1");
        x.resolve(0);
        Due.is("clash(0) is gone", () -> x.clash(0), FixityTrees.NONE);
        Due.is("clash(1) is gone", () -> x.clash(1), FixityTrees.NONE);
        Due.is("clash(2) is gone", () -> x.clash(2), FixityTrees.NONE);
        Due.badArgument(x, "clash(3)", () -> x.clash(3));
        Texts.row(x, "1 n 2 n 3");
        Due.is("same() finds no tree", () -> x.same(0) ? 1 : 0, 0);
        Due.is("but tells no clash", () -> x.clash(0), FixityTrees.NONE);
    }

    private static void nodes() {
        FixityTrees x = Texts.with(FIXITIES);
        Texts.row(x, "- 1 b 2 l ( 3 a 4 a ) l ( b 5 )");
        x.resolve(0);
        int n = FixityTrees.NONE;
        int[][] due = {
            {1, 12, 1, 10, 11}, {1, 12, 2, 6, 4}, {2, 0, 3, n, 0}, {1, 2, 4, 5, 2}, {0, n, n, n, 1},
            {0, n, n, n, 3}, {3, 1, 7, n, 9}, {1, 1, 8, 9, 7}, {0, n, n, n, 6}, {0, n, n, n, 8},
            {4, 2, 11, n, 13}, {0, n, n, n, 14},
        };
        for (int k = 0; k < due.length; k++) {
            for (int what = 0; what < 5; what++) {
                int node = k;
                int w = what;
                Due.is("node(" + k + ", " + what + ")", () -> x.node(node, w), due[k][what]);
            }
        }
        Due.is("how many", () -> x.told(4), due.length);
        Due.outOfBounds(x, "node(12, 0)", () -> x.node(12, 0));
        Due.outOfBounds(x, "node(-1, 0)", () -> x.node(-1, 0));
        Due.outOfBounds(x, "node(12, 5)", () -> x.node(12, 5));
        Due.outOfBounds(x, "node(most, 0)", () -> x.node(Integer.MAX_VALUE, 0));
        Due.badArgument(x, "node(0, 5)", () -> x.node(0, 5));
        Due.badArgument(x, "node(11, -1)", () -> x.node(11, -1));
    }

    private static void numbers() {
        FixityTrees x = Texts.with(FIXITIES);
        Due.outOfBounds(x, "number(0) without a tree", () -> x.number(0));
        x.begin(false);
        x.operand(Long.MIN_VALUE);
        x.operator(1);
        x.operand(Long.MAX_VALUE);
        x.resolve(0);
        Due.is("number(1)", () -> x.number(1), Long.MIN_VALUE);
        Due.is("number(2)", () -> x.number(2), Long.MAX_VALUE);
        Due.outOfBounds(x, "number of an operator", () -> x.number(0));
        Due.outOfBounds(x, "number(3)", () -> x.number(3));
        Due.outOfBounds(x, "number(-1)", () -> x.number(-1));
        // The tree keeps its numbers when the row goes on.
        Texts.row(x, "5 a 6");
        Due.is("number(1)", () -> x.number(1), Long.MIN_VALUE);
        Texts.row(x, "- ( 7 a )");
        x.resolve(0);
        Due.outOfBounds(x, "number of a negation", () -> x.number(0));
        Due.outOfBounds(x, "number of a section", () -> x.number(1));
        Due.is("number(2)", () -> x.number(2), 7);
    }

    private static void waiting(String items, int most) {
        FixityTrees x = holding(items, false);
        x.resolve(0);
        Due.is("told(5) of " + items, () -> x.told(5), most);
        Texts.row(x, "1 n 2 n 3");
        x.resolve(0);
        Due.is("told(5) behind a clash, of " + items, () -> x.told(5), most);
        x.begin(false);
        Due.is("told(5) behind begin, of " + items, () -> x.told(5), most);
    }

    private static void waiting() {
        waiting("1", 0);
        waiting("( 1 )", 0);
        waiting("- 1", 1);
        waiting("1 a 2 a 3 a 4", 1);
        waiting("1 r 2 r 3 r 4", 3);
        waiting("1 l 2 r 3 b 4 l 5", 3);
        waiting("1 l ( 2 l ( 3 l 4 ) )", 3);
        waiting("( 1 a 2 ) a ( 3 a 4 )", 2);
        waiting("( a 1 b 2 )", 2);
        waiting("1 l ( 2 a )", 2);
        waiting("1 r - 2 b 3", 3);
    }

    private static void height(String items, int most) {
        FixityTrees x = holding(items, false);
        x.resolve(0);
        Due.is("told(6) of " + items, () -> x.told(6), most);
        x.begin(true);
        Due.is("told(6) behind begin, of " + items, () -> x.told(6), most);
        Texts.row(x, "1 n 2 n 3");
        x.resolve(0);
        Due.is("told(6) behind a clash, of " + items, () -> x.told(6), 0);
    }

    private static void heights() {
        height("1", 1);
        height("( ( 1 ) )", 1);
        height("- 1", 2);
        height("1 a 2 a 3", 3);
        height("1 r 2 r 3 r 4", 4);
        height("( 1 a 2 ) a ( 3 a 4 )", 3);
        height("( n - 1 )", 3);
        height("- ( 1 a )", 3);
    }

    private static void limits() {
        FixityTrees x = Texts.with(FIXITIES);
        Texts.row(x, "-");
        for (int i = 0; i < 99; i++) {
            Texts.items(x, "1 s");
        }
        Texts.items(x, "1");
        Due.is("a row of 200 items", () -> x.resolve(0), 200);
        Due.is("all below one another", () -> x.told(6), 101);
        Due.is("all wait", () -> x.told(5), 100);
        Due.is("the last node", () -> x.node(199, 4), 199);

        x.begin(false);
        for (int i = 0; i < 40; i++) {
            Texts.items(x, "- (");
        }
        Texts.items(x, "1");
        for (int i = 0; i < 40; i++) {
            Texts.items(x, ")");
        }
        Due.is("40 brackets", () -> x.resolve(0), 41);
        Due.is("40 wait in groups of their own", () -> x.told(5), 40);
        Due.is("41 below one another", () -> x.told(6), 41);
    }

    private static void toldRefuses() {
        FixityTrees x = new FixityTrees();
        Due.badArgument(x, "told(7)", () -> x.told(7));
        Due.badArgument(x, "told(-1)", () -> x.told(-1));
        Due.badArgument(x, "told(least)", () -> x.told(Integer.MIN_VALUE));
    }
}

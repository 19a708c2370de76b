/** Promises 10 and 11, and what the terms say of resolving: resolve, clash. */
public final class ResolveTest {
    private static final int NONE = FixityTrees.NONE;
    private static final int LEAST = Integer.MIN_VALUE;
    private static final int MOST = Integer.MAX_VALUE;
    private static final int MINUS_RANK = 6;
    private static final boolean PATTERN = true;
    private static final boolean NO_PATTERN = false;
    // LEFT a 6, b 7; RIGHT r 5, s 8, q 6; NONE n 4, m 7; l 3 LEFT, p 3 RIGHT.
    private static final String FIXITIES = "aL6 bL7 rR5 sR8 qR6 nN4 mN7 lL3 pR3";

    public static void main(String[] args) {
        resolveAnswersHowMany();
        resolveOneNode();
        resolveTwoHundredItems();
        resolveFortyOpen();
        resolveByTheScope();
        resolveByUntold();
        resolveAtAClash();
        resolveByNoScope();
        resolveWhileAnOperandIsDue();
        resolveWhileABracketIsOpen();

        eachPairOfOperators();
        eachOperatorBehindANegation();
        eachNegationBehindAnOperator();
        eachOperatorBesideMinus();
        eachPairInARightSection();
        eachPairInALeftSection();
        eachOperatorBehindANegationInAPattern();
        manyAreDoneAtOnce();
        newestOfSeveralClashes();
        groupsAreApart();
        bracketsCountAsOneOperand();
        sectionsAreOneOperand();
        firstClashEnds();
        clashesLeaveNothing();
        patterns();

        clashAnswers();
        clashAtTheEnds();
        clashAtClose();
        clashIsNone();
        clashIsOfTheLatest();
        clashOfNoSuchWhat();
        Due.end();
    }

    private static Run holding(String items, boolean pattern) {
        Run x = Texts.with(FIXITIES);
        x.begin(pattern);
        Texts.items(x, items);
        return x;
    }

    private static void tree(String items, String tree, int nodes) {
        tree(holding(items, NO_PATTERN), items, tree, nodes);
    }

    private static void tree(Run x, String name, String tree, int nodes) {
        Due.is("resolve " + name, () -> x.resolve(0), nodes);
        Due.text("tree of " + name, Texts.tree(x), tree);
        Due.is("told(4) of " + name, () -> x.told(4), nodes);
        Due.is("clash(0) of " + name, () -> x.clash(0), NONE);
        Due.is("clash(1) of " + name, () -> x.clash(1), NONE);
        Due.is("clash(2) of " + name, () -> x.clash(2), NONE);
    }

    private static void clash(String items, int kind, int waited, int other) {
        clash(holding(items, NO_PATTERN), items, kind, waited, other);
    }

    private static void clash(Run x, String name, int kind, int waited, int other) {
        Due.is("resolve " + name, () -> x.resolve(0), NONE);
        Due.is("clash(0) of " + name, () -> x.clash(0), kind);
        Due.is("clash(1) of " + name, () -> x.clash(1), waited);
        Due.is("clash(2) of " + name, () -> x.clash(2), other);
        Due.is("told(4) of " + name, () -> x.told(4), 0);
        Due.is("told(6) of " + name, () -> x.told(6), 0);
    }

    // Promise 10

    private static void resolveAnswersHowMany() {
        Due.about("Promise 10", "The row is RESOLVED by a scope: how many nodes the TREE has");
        tree("1 a 2", "[1 a 2]", 3);
        tree("1 a 2 b 3", "[1 a [2 b 3]]", 5);
        tree("1 b 2 a 3", "[[1 b 2] a 3]", 5);
        tree("1 r 2 a 3 b 4 a 5 r 6", "[1 r [[[2 a [3 b 4]] a 5] r 6]]", 11);
        tree("1 n 2 l 3 n 4", "[[1 n 2] l [3 n 4]]", 7);
        tree("1 a 2 - 3 a 4", "[[[1 a 2] - 3] a 4]", 7);
        tree("- 1 b 2 a 3", "[[- [1 b 2]] a 3]", 6);
        tree("1 r - 2 r 3", "[1 r [[- 2] r 3]]", 6);
        tree("1 n - 2 s 3", "[1 n [- [2 s 3]]]", 6);
        tree("( n - 1 b 2 )", "[_ n [- [1 b 2]]]", 5);
        tree("( a 1 ) b ( 2 a )", "[[_ a 1] b [2 a _]]", 5);
    }

    private static void resolveOneNode() {
        Due.about("Promise 10", "how many nodes the TREE has");
        tree("1", "1", 1);
        tree("( 1 )", "1", 1);
        tree("( ( 1 ) )", "1", 1);
        tree("- 1", "[- 1]", 2);
        tree("( 1 a )", "[1 a _]", 2);
        tree("( a 1 )", "[_ a 1]", 2);
        tree(holding("1", PATTERN), "1 in a pattern", "1", 1);
    }

    private static void resolveTwoHundredItems() {
        Due.about("Terms", "A ROW of items (200 at most)");
        Run right = holding("- " + Texts.times(99, "1 s") + " 1", NO_PATTERN);
        Due.is("- 1 s 1 .. s 1", () -> right.resolve(0), 200);
        Due.is("its last node's place", () -> right.node(199, 4), 199);
        Due.outOfBounds(right, "node(200, 0)", () -> right.node(200, 0));
        Run left = holding("- " + Texts.times(99, "1 a") + " 1", PATTERN);
        Due.is("- 1 a 1 .. a 1", () -> left.resolve(0), 200);
        Due.is("its last node's place", () -> left.node(199, 4), 199);
        Due.is("its negation is lowest", () -> left.node(99, 0), 2);
        Run open = holding(Texts.times(98, "1 a") + " - ( 1 )", NO_PATTERN);
        clash(open, "200 items that end with CLOSE", 2, 195, 196);
        Run closed = holding(Texts.times(98, "1 r") + " - ( 1 )", NO_PATTERN);
        Due.is("200 items that end with CLOSE", () -> closed.resolve(0), 198);
        Run negations = holding(Texts.times(66, "- 1 r") + " - 1", NO_PATTERN);
        Due.is("- 1 r - 1 .. r - 1", () -> negations.resolve(0), 200);
    }

    private static void resolveFortyOpen() {
        Due.about("Terms", "40 open at most");
        Run brackets = holding(Texts.times(40, "(") + " 1 " + Texts.times(40, ")"), NO_PATTERN);
        Due.is("40 brackets round an operand", () -> brackets.resolve(0), 1);
        Run pattern = holding(Texts.times(40, "(") + " - 1 " + Texts.times(40, ")"), PATTERN);
        Due.is("40 brackets in a pattern", () -> pattern.resolve(0), 2);
        Run negations = holding(Texts.times(40, "- (") + " - 1 " + Texts.times(40, ")"), NO_PATTERN);
        Due.is("41 negations", () -> negations.resolve(0), 42);
        Run left = holding(Texts.times(40, "(") + " 1 " + Texts.times(40, "a )"), NO_PATTERN);
        Due.is("40 left sections", () -> left.resolve(0), 41);
        Due.is("the innermost", () -> left.node(39, 4), 41);
        Run right = holding(Texts.times(40, "( a") + " 1 " + Texts.times(40, ")"), NO_PATTERN);
        Due.is("40 right sections", () -> right.resolve(0), 41);
        Due.is("the innermost", () -> right.node(39, 4), 79);
        Run clash = holding(Texts.times(40, "(") + " 1 n 2 n 3 " + Texts.times(40, ")"), NO_PATTERN);
        clash(clash, "a clash in 40 brackets", 1, 41, 43);
    }

    private static void resolveByTheScope() {
        Due.about("Promise 10", "The row is RESOLVED by a scope");
        Run x = Texts.with("aL6 bL7");
        for (int scope = 1; scope < 30; scope++) {
            x.scope(scope - 1);
        }
        Texts.tell(x, 29, "aR9");
        Texts.row(x, "1 a 2 b 3 a 4");
        Due.is("by scope 0", () -> x.resolve(0), 7);
        Due.text("by scope 0", Texts.tree(x), "[[1 a [2 b 3]] a 4]");
        Due.is("by scope 29", () -> x.resolve(29), 7);
        Due.text("by scope 29", Texts.tree(x), "[[1 a 2] b [3 a 4]]");
        Due.is("by scope 28", () -> x.resolve(28), 7);
        Due.text("by scope 28", Texts.tree(x), "[[1 a [2 b 3]] a 4]");
        Due.outOfBounds(x, "by scope 30", () -> x.resolve(30));
    }

    private static void resolveByUntold() {
        Due.about("Terms", "if none does LEFT and 9");
        tree("1 y 2 z 3 s 4", "[[[1 y 2] z 3] s 4]", 7);
        tree("1 s 2 y 3 z 4", "[1 s [[2 y 3] z 4]]", 7);
        tree("- 1 z 2", "[- [1 z 2]]", 4);
        clash("1 z - 2", 2, 1, 2);
        Run x = new Run();
        x.operand(1);
        x.operator(40);
        x.operand(2);
        x.operator(39);
        x.operand(3);
        tree(x, "1 op40 2 op39 3", "[[1 op40 2] op39 3]", 5);
    }

    private static void resolveAtAClash() {
        Due.about("Promise 10", "NONE at a CLASH (there is no TREE then)");
        Run x = holding("1 a 2", NO_PATTERN);
        x.resolve(0);
        x.write(0);
        Texts.row(x, "1 n 2 n 3");
        Due.is("resolve(0)", () -> x.resolve(0), NONE);
        Due.is("told(4)", () -> x.told(4), 0);
        Due.is("told(6)", () -> x.told(6), 0);
        Due.outOfBounds(x, "node(0, 0)", () -> x.node(0, 0));
        Due.outOfBounds(x, "number(1)", () -> x.number(1));
        Due.badState(x, "write(0)", () -> x.write(0));
        Due.badState(x, "same(0)", () -> x.same(0));
        Due.is("the row stays", () -> x.told(0), 5);
        Due.is("resolve(0) once more", () -> x.resolve(0), NONE);
        Due.is("what was written stays", () -> x.take(), 3);
        Due.is("it is resolved", () -> x.resolve(0), 3);
    }

    private static void resolveByNoScope() {
        Due.about("Promise 10", "IndexOutOfBounds");
        Run x = holding("1 a 2", NO_PATTERN);
        x.resolve(0);
        Texts.items(x, "b 3");
        for (int scope : new int[] {-1, 1, 29, 30, LEAST, MOST}) {
            Due.outOfBounds(x, "resolve(" + scope + ")", () -> x.resolve(scope));
        }
        Due.about("Terms", "Of several the first one in this order.");
        Texts.items(x, "a");
        Due.outOfBounds(x, "resolve(1) while an operand is due", () -> x.resolve(1));
        Texts.items(x, "( 4");
        Due.outOfBounds(x, "resolve(-1) while a bracket is open", () -> x.resolve(-1));
        x.begin(true);
        Due.outOfBounds(x, "resolve(1) of an empty row", () -> x.resolve(1));
    }

    private static void resolveWhileAnOperandIsDue() {
        Due.about("Promise 10", "IllegalState: an operand is DUE");
        for (boolean pattern : new boolean[] {NO_PATTERN, PATTERN}) {
            for (String row : new String[] {"", "1 a", "1 -", "-", "1 r -", "(", "( 1 ) a", "( -"}) {
                Run x = holding("7 a 8", NO_PATTERN);
                x.resolve(0);
                x.begin(pattern);
                Texts.items(x, row);
                Due.badState(x, "resolve(0) of " + Texts.quoted(row), () -> x.resolve(0));
            }
        }
        Run full = holding(Texts.times(100, "1 a"), NO_PATTERN);
        Due.badState(full, "resolve(0) of 200 items", () -> full.resolve(0));
        Run sections = holding("( 1 a", NO_PATTERN);
        Due.badState(sections, "resolve(0) of \"( 1 a\"", () -> sections.resolve(0));
    }

    private static void resolveWhileABracketIsOpen() {
        Due.about("Promise 10", "or a bracket open");
        for (String row : new String[] {"( 1", "( ( 1 )", "1 a ( 2", "( a 1", "( 1 a ( 2 )", "( ( 1 a )"}) {
            Run x = holding(row, NO_PATTERN);
            Due.badState(x, "resolve(0) of " + Texts.quoted(row), () -> x.resolve(0));
        }
        Run forty = holding(Texts.times(40, "(") + " 1", NO_PATTERN);
        for (int i = 0; i < 40; i++) {
            Due.badState(forty, "resolve(0) while " + (40 - i) + " are open", () -> forty.resolve(0));
            forty.close();
        }
        Due.is("resolve(0) with none open", () -> forty.resolve(0), 1);
    }

    // Terms: to resolve

    private static void eachPairOfOperators() {
        Due.about("Terms", "An operator: as long as one waits in its group: the newest, W");
        Pairs.each((side, rank, otherSide, otherRank) -> {
            String name = "1 w 2 o 3, w " + Pairs.name(side, rank) + ", o " + Pairs.name(otherSide, otherRank);
            Run x = Pairs.with(side, rank, otherSide, otherRank);
            Texts.row(x, "1 w 2 o 3");
            switch (Pairs.fate(side, rank, otherSide, otherRank)) {
                case Pairs.CLASHES: clash(x, name, 1, 1, 3); break;
                case Pairs.IS_DONE: tree(x, name, "[[1 w 2] o 3]", 5); break;
                default: tree(x, name, "[1 w [2 o 3]]", 5); break;
            }
        });
    }

    private static void eachOperatorBehindANegation() {
        Due.about("Terms", "NEGATION with one (its RANK 6, SIDE LEFT)");
        for (int side = 0; side < Pairs.SIDES; side++) {
            for (int rank = 0; rank < Pairs.RANKS; rank++) {
                String name = "- 1 o 2, o " + Pairs.name(side, rank);
                Run x = Pairs.with(Pairs.LEFT, 0, side, rank);
                Texts.row(x, "- 1 o 2");
                switch (Pairs.fate(Pairs.LEFT, MINUS_RANK, side, rank)) {
                    case Pairs.CLASHES: clash(x, name, 1, 0, 2); break;
                    case Pairs.IS_DONE: tree(x, name, "[[- 1] o 2]", 4); break;
                    default: tree(x, name, "[- [1 o 2]]", 4); break;
                }
            }
        }
    }

    private static void eachNegationBehindAnOperator() {
        Due.about("Terms", "A NEGATION: if one waits in its group, the newest one's RANK being 6 or more: a CLASH of kind 2");
        for (int side = 0; side < Pairs.SIDES; side++) {
            for (int rank = 0; rank < Pairs.RANKS; rank++) {
                String name = ", o " + Pairs.name(side, rank);
                Run two = Pairs.with(Pairs.LEFT, 0, side, rank);
                Texts.row(two, "1 o - 2");
                Run section = Pairs.with(Pairs.LEFT, 0, side, rank);
                Texts.row(section, "( o - 1 )");
                Run pattern = Pairs.with(Pairs.LEFT, 0, side, rank);
                Texts.pattern(pattern, "1 o - 2");
                if (rank >= MINUS_RANK) {
                    clash(two, "1 o - 2" + name, 2, 1, 2);
                    clash(section, "( o - 1 )" + name, 2, 1, 2);
                    clash(pattern, "1 o - 2 in a pattern" + name, 2, 1, 2);
                } else {
                    tree(two, "1 o - 2" + name, "[1 o [- 2]]", 4);
                    tree(section, "( o - 1 )" + name, "[_ o [- 1]]", 3);
                    tree(pattern, "1 o - 2 in a pattern" + name, "[1 o [- 2]]", 4);
                }
            }
        }
        clash("- - 1", 2, 0, 1);
        clash("1 - - 2", 2, 1, 2);
        clash("1 n 2 s - 3", 2, 3, 4);
        clash("1 r - - 2", 2, 2, 3);
        tree("- ( - 1 )", "[- [- 1]]", 3);
    }

    private static void eachOperatorBesideMinus() {
        Due.about("Terms", "MINUS's are always LEFT and 6.");
        for (int side = 0; side < Pairs.SIDES; side++) {
            for (int rank = 0; rank < Pairs.RANKS; rank++) {
                String name = ", o " + Pairs.name(side, rank);
                Run before = Pairs.with(Pairs.LEFT, 0, side, rank);
                Texts.row(before, "1 - 2 o 3");
                switch (Pairs.fate(Pairs.LEFT, MINUS_RANK, side, rank)) {
                    case Pairs.CLASHES: clash(before, "1 - 2 o 3" + name, 1, 1, 3); break;
                    case Pairs.IS_DONE: tree(before, "1 - 2 o 3" + name, "[[1 - 2] o 3]", 5); break;
                    default: tree(before, "1 - 2 o 3" + name, "[1 - [2 o 3]]", 5); break;
                }
                Run behind = Pairs.with(Pairs.LEFT, 0, side, rank);
                Texts.row(behind, "1 o 2 - 3");
                switch (Pairs.fate(side, rank, Pairs.LEFT, MINUS_RANK)) {
                    case Pairs.CLASHES: clash(behind, "1 o 2 - 3" + name, 1, 1, 3); break;
                    case Pairs.IS_DONE: tree(behind, "1 o 2 - 3" + name, "[[1 o 2] - 3]", 5); break;
                    default: tree(behind, "1 o 2 - 3" + name, "[1 o [2 - 3]]", 5); break;
                }
            }
        }
        tree("- 1 - 2", "[[- 1] - 2]", 4);
        tree("1 - 2 - 3", "[[1 - 2] - 3]", 5);
        tree("( 1 - )", "[1 - _]", 2);
    }

    private static void eachPairInARightSection() {
        Due.about("Terms", "(CLASH 3, if W begins a RIGHT SECTION)");
        Pairs.each((side, rank, otherSide, otherRank) -> {
            String name = "( w 1 o 2 ), w " + Pairs.name(side, rank) + ", o " + Pairs.name(otherSide, otherRank);
            Run x = Pairs.with(side, rank, otherSide, otherRank);
            Texts.row(x, "( w 1 o 2 )");
            switch (Pairs.fate(side, rank, otherSide, otherRank)) {
                case Pairs.CLASHES: clash(x, name, 1, 1, 3); break;
                case Pairs.IS_DONE: clash(x, name, 3, 1, 3); break;
                default: tree(x, name, "[_ w [1 o 2]]", 4); break;
            }
        });
        clash("( a 1 b 2 l 3 )", 3, 1, 5);
        clash("( a 1 - 2 )", 3, 1, 3);
        clash("( l - 1 l 2 )", 3, 1, 4);
        clash("1 l ( a 2 a 3 )", 3, 3, 5);
    }

    private static void eachPairInALeftSection() {
        Due.about("Terms", "CLOSE: of a LEFT SECTION: if another one than its operator waits in the group: CLASH 3");
        Pairs.each((side, rank, otherSide, otherRank) -> {
            String name = "( 1 w 2 o ), w " + Pairs.name(side, rank) + ", o " + Pairs.name(otherSide, otherRank);
            Run x = Pairs.with(side, rank, otherSide, otherRank);
            Texts.row(x, "( 1 w 2 o )");
            switch (Pairs.fate(side, rank, otherSide, otherRank)) {
                case Pairs.CLASHES: clash(x, name, 1, 2, 4); break;
                case Pairs.IS_DONE: tree(x, name, "[[1 w 2] o _]", 4); break;
                default: clash(x, name, 3, 2, 4); break;
            }
        });
        tree("( - 1 a )", "[[- 1] a _]", 3);
        clash("( - 1 b )", 3, 1, 3);
        clash("( 1 r 2 - )", 3, 2, 4);
    }

    private static void eachOperatorBehindANegationInAPattern() {
        Due.about("Terms", "else, in a PATTERN, if W is a NEGATION: CLASH 4");
        for (int side = 0; side < Pairs.SIDES; side++) {
            for (int rank = 0; rank < Pairs.RANKS; rank++) {
                String name = "- 1 o 2 in a pattern, o " + Pairs.name(side, rank);
                Run x = Pairs.with(Pairs.LEFT, 0, side, rank);
                Texts.pattern(x, "- 1 o 2");
                switch (Pairs.fate(Pairs.LEFT, MINUS_RANK, side, rank)) {
                    case Pairs.CLASHES: clash(x, name, 1, 0, 2); break;
                    case Pairs.IS_DONE: tree(x, name, "[[- 1] o 2]", 4); break;
                    default: clash(x, name, 4, 0, 2); break;
                }
            }
        }
        clash(holding("1 r - 2 s 3", PATTERN), "1 r - 2 s 3", 4, 2, 4);
        clash(holding("( - 1 z 2 )", PATTERN), "( - 1 z 2 )", 4, 1, 3);
        tree(holding("1 b 2 s 3", PATTERN), "1 b 2 s 3", "[1 b [2 s 3]]", 5);
        tree(holding("( - 1 ) b 2", PATTERN), "( - 1 ) b 2", "[[- 1] b 2]", 4);
    }

    private static void manyAreDoneAtOnce() {
        Due.about("Terms", "as long as one waits in its group");
        tree("1 l 2 r 3 a 4 b 5 s 6 l 7", "[[1 l [2 r [3 a [4 b [5 s 6]]]]] l 7]", 13);
        tree("1 r 2 r 3 r 4 n 5", "[[1 r [2 r [3 r 4]]] n 5]", 9);
        tree("1 n - 2 b 3 s 4 l 5", "[[1 n [- [2 b [3 s 4]]]] l 5]", 10);
        Run many = holding(Texts.times(98, "1 s") + " 1 a 2", NO_PATTERN);
        Due.is("98 are done by one", () -> many.resolve(0), 199);
        Due.is("it is the root", () -> many.node(0, 4), 197);
    }

    private static void newestOfSeveralClashes() {
        Due.about("Terms", "CLASH 3 of the newest such one and that operator");
        clash("( 1 l 2 r 3 b )", 3, 4, 6);
        clash("( 1 l 2 r )", 3, 2, 4);
        clash("( 1 l 2 r 3 a 4 b 5 s )", 3, 8, 10);
        clash("1 l ( 2 r 3 a )", 3, 4, 6);
        clash("( 1 n ( 2 a ) b )", 3, 2, 7);
        clash("( 1 r - 2 s )", 3, 3, 5);
    }

    private static void groupsAreApart() {
        Due.about("Terms", "in each group operators and NEGATIONS WAIT");
        tree("1 b ( - 2 )", "[1 b [- 2]]", 4);
        tree("1 n ( 2 n 3 )", "[1 n [2 n 3]]", 5);
        tree("( 1 n 2 ) n ( 3 n 4 )", "[[1 n 2] n [3 n 4]]", 7);
        tree("1 b ( 2 l 3 ) b 4", "[[1 b [2 l 3]] b 4]", 7);
        tree("( b ( 1 l 2 ) )", "[_ b [1 l 2]]", 4);
        tree("1 l ( 2 a )", "[1 l [2 a _]]", 4);
        tree("1 s ( a 2 )", "[1 s [_ a 2]]", 4);
        tree("- ( a 1 )", "[- [_ a 1]]", 3);
        clash("1 n ( 2 n 3 ) n 4", 1, 1, 7);
        clash("1 b ( 2 ) - ( - 3 ) q 4", 1, 5, 10);
    }

    private static void bracketsCountAsOneOperand() {
        Due.about("Terms", "what is in brackets within counts there as one operand");
        tree("( 1 a 2 ) b 3", "[[1 a 2] b 3]", 5);
        tree("1 a ( 2 a 3 )", "[1 a [2 a 3]]", 5);
        tree("( 1 r 2 ) r 3", "[[1 r 2] r 3]", 5);
        tree("- ( 1 a 2 )", "[- [1 a 2]]", 4);
        tree("( ( 1 r 2 ) b )", "[[1 r 2] b _]", 4);
        tree("( b ( 1 a 2 ) )", "[_ b [1 a 2]]", 4);
    }

    private static void sectionsAreOneOperand() {
        Due.about("Terms", "LEFT SECTION (its one operand stands left of its operator), RIGHT SECTION (right of it)");
        tree("( a ( 1 a ) )", "[_ a [1 a _]]", 3);
        tree("( ( a 1 ) a )", "[[_ a 1] a _]", 3);
        tree("( ( a 1 ) )", "[_ a 1]", 2);
        tree("( 1 a 2 a )", "[[1 a 2] a _]", 4);
        tree("( r 1 r 2 )", "[_ r [1 r 2]]", 4);
        tree("( n 1 )", "[_ n 1]", 2);
        tree("( 1 n )", "[1 n _]", 2);
    }

    private static void firstClashEnds() {
        Due.about("Terms", "The first CLASH ends it: there is no tree.");
        clash("1 n 2 n 3 a - 4", 1, 1, 3);
        clash("1 a - 4 n 2 n 3", 2, 1, 2);
        clash("( 1 a 2 b ) a - 3", 3, 2, 4);
        clash("( a 1 a 2 n 3 n 4 )", 3, 1, 3);
        clash("( 1 n 2 n )", 1, 2, 4);
        clash(holding("- 1 b 2 a - 3", PATTERN), "- 1 b 2 a - 3", 4, 0, 2);
    }

    // What waited, and the groups that were open, when a clash came must not add up from call to call.
    private static void clashesLeaveNothing() {
        Due.about("Terms", "The first CLASH ends it: there is no tree.");
        String before = Texts.times(20, "1 l (");
        String behind = Texts.times(20, ")");
        Run x = holding(before + " 1 r 2 a - 3 " + behind, NO_PATTERN);
        for (int i = 0; i < 300; i++) {
            Due.is("resolve(0)", () -> x.resolve(0), NONE);
        }
        clash(x, "a clash in 20 brackets for the 301st time", 2, 63, 64);
        Texts.row(x, "( 1 r 2 a 3 ) b 4");
        tree(x, "a row without a clash then", "[[1 r [2 a 3]] b 4]", 7);
        Due.is("told(5)", () -> x.told(5), 2);
    }

    private static void patterns() {
        Due.about("Terms", "in a PATTERN the child of a NEGATION is the OPERAND behind it");
        tree(holding("- 1", PATTERN), "- 1", "[- 1]", 2);
        tree(holding("- 1 a 2", PATTERN), "- 1 a 2", "[[- 1] a 2]", 4);
        tree(holding("1 r - 2 r 3", PATTERN), "1 r - 2 r 3", "[1 r [[- 2] r 3]]", 6);
        tree(holding("1 b 2 - 3", PATTERN), "1 b 2 - 3", "[[1 b 2] - 3]", 5);
        clash(holding("- 1 b 2", PATTERN), "- 1 b 2", 4, 0, 2);
        tree("- 1 b 2", "[- [1 b 2]]", 4);
    }

    // Promise 11

    private static void clashAnswers() {
        Due.about("Promise 11", "its kind (what = 0), places in the row, from 0, of the item that waited (1), of the other one");
        clash("1 l 2 b 3 a 4 p 5", 1, 1, 7);
        clash("1 n ( 2 a 3 ) l 4 a - 5", 2, 9, 10);
        clash("1 n ( b 2 - 3 )", 3, 3, 5);
        clash(holding("1 n 2 a ( - 3 b 4 )", PATTERN), "1 n 2 a ( - 3 b 4 )", 4, 5, 7);
    }

    private static void clashAtTheEnds() {
        Due.about("Promise 11", "places in the row, from 0");
        clash(holding("- " + Texts.times(98, "1 s") + " 1 q 2", NO_PATTERN), "the first and the last but one", 1, 0, 198);
        clash(holding(Texts.times(98, "1 l") + " 1 s - 2", NO_PATTERN), "the last two", 2, 197, 198);
        clash(holding(Texts.times(97, "1 l") + " ( 2 l 3 b )", NO_PATTERN), "a section at the end", 3, 196, 198);
        clash(holding(Texts.times(98, "1 l") + " - 1 b 2", PATTERN), "a pattern's end", 4, 196, 198);
    }

    private static void clashAtClose() {
        Due.about("Promise 11", "of CLASH 3 at a CLOSE the operator's");
        clash("( 1 a 2 b )", 3, 2, 4);
        clash("( 1 a 2 b ) a 3", 3, 2, 4);
        clash("1 l ( ( 2 ) r ( 3 ) r )", 3, 6, 10);
    }

    private static void clashIsNone() {
        Due.about("Promise 11", "else NONE");
        Run x = Texts.with(FIXITIES);
        for (int what = 0; what < 3; what++) {
            int w = what;
            Due.is("clash(" + w + ") before any resolve()", () -> x.clash(w), NONE);
        }
        Texts.row(x, "1 n 2 n 3");
        for (int what = 0; what < 3; what++) {
            int w = what;
            Due.is("clash(" + w + ") before the row is resolved", () -> x.clash(w), NONE);
        }
        x.resolve(0);
        Due.is("clash(0)", () -> x.clash(0), 1);
        Texts.row(x, "1 n 2");
        x.resolve(0);
        for (int what = 0; what < 3; what++) {
            int w = what;
            Due.is("clash(" + w + ") behind one without", () -> x.clash(w), NONE);
        }
    }

    private static void clashIsOfTheLatest() {
        Due.about("Promise 11", "Of the latest resolve(), if it had a CLASH");
        Run x = holding("1 n 2 n 3", NO_PATTERN);
        x.resolve(0);
        Texts.row(x, "1 l 2 a - 3");
        Due.is("clash(0) before the next", () -> x.clash(0), 1);
        x.resolve(0);
        Due.is("clash(0)", () -> x.clash(0), 2);
        Due.is("clash(1)", () -> x.clash(1), 3);
        Due.is("clash(2)", () -> x.clash(2), 4);
        x.begin(true);
        Due.badState(x, "resolve(0) that is refused", () -> x.resolve(0));
        Due.is("clash(0) behind it", () -> x.clash(0), 2);
        Run y = holding("1", NO_PATTERN);
        y.resolve(0);
        Texts.row(y, "1 n 2 n 3");
        Due.is("same(0) of a row that clashes", () -> y.same(0), 0);
        Due.is("clash(0) behind it", () -> y.clash(0), NONE);
        y.write(0);
        y.resolve(0);
        y.take();
        Due.is("clash(0) behind take()", () -> y.clash(0), 1);
        Due.is("clash(1) behind take()", () -> y.clash(1), 1);
        Due.is("clash(2) behind take()", () -> y.clash(2), 3);
        y.resolve(0);
        Due.is("clash(0) behind resolve() of what was taken", () -> y.clash(0), NONE);
    }

    private static void clashOfNoSuchWhat() {
        Due.about("Promise 11", "IllegalArgument.");
        Run fresh = new Run();
        Run clash = holding("1 n 2 n 3", NO_PATTERN);
        clash.resolve(0);
        Run tree = holding("1 n 2", NO_PATTERN);
        tree.resolve(0);
        for (Run x : new Run[] {fresh, clash, tree}) {
            for (int what : new int[] {-1, 3, 4, LEAST, MOST}) {
                Due.badArgument(x, "clash(" + what + ")", () -> x.clash(what));
            }
        }
    }
}

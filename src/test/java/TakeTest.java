/** Promises 16 and 17: take, same. */
public final class TakeTest {
    private static final int LEAST = Integer.MIN_VALUE;
    private static final int MOST = Integer.MAX_VALUE;
    private static final String FIXITIES = "aL6 bL7 rR5 sR8 qR6 nN4 mN7 lL3 pR3";

    public static void main(String[] args) {
        takenIsTheRow();
        takenGroupsAreClosed();
        takenAgain();
        takenIsNoPattern();
        takeKeepsNumbers();
        takeLeavesTheTree();
        takeOfNothing();
        takeOfTwoHundredItems();
        takeOfFortyOpen();

        sameTrees();
        sameOtherTrees();
        sameWithoutARightTree();
        sameByTheScope();
        sameInPatterns();
        sameLooksAtNoPlaces();
        sameChangesNothing();
        sameOfTheMost();
        sameByNoScope();
        sameOfARowThatIsNotWhole();
        sameWithoutATree();
        Due.end();
    }

    private static Run resolved(String items) {
        Run x = Texts.with(FIXITIES);
        Texts.row(x, items);
        x.resolve(0);
        return x;
    }

    private static Run written(String items) {
        Run x = resolved(items);
        x.write(0);
        return x;
    }

    // Promise 16

    private static void takenIsTheRow() {
        Due.about("Promise 16", "What was WRITTEN latest becomes the row");
        Run x = written("( 11 a ) b ( - 12 )");
        Texts.row(x, "( ( 9");
        Due.is("take()", () -> x.take(), 9);
        Due.is("told(0)", () -> x.told(0), 9);
        Due.is("told(1)", () -> x.told(1), 0);
        Due.is("told(2)", () -> x.told(2), 0);
        Due.badState(x, "no operand is due", () -> x.operand(1));
        Due.badState(x, "no bracket is open", () -> x.close());
        Due.is("an operator", () -> x.operator(12), 10);
        Due.is("and an operand", () -> x.operand(13), 11);
        Due.is("resolve(0)", () -> x.resolve(0), 7);
        Due.text("the tree", Texts.tree(x), "[[[11 a _] b [- 12]] l 13]");
        Due.is("the place of its root", () -> x.node(0, 4), 9);
        Due.about("Promise 16", "how many items");
        Run one = written("( 5 )");
        Due.is("take() of one item", () -> one.take(), 1);
        Due.is("resolve(0) of it", () -> one.resolve(0), 1);
    }

    private static void takenGroupsAreClosed() {
        Due.about("Promise 16", "What was WRITTEN latest becomes the row");
        Run right = written("( a 1 )");
        right.take();
        Due.is("a left section behind a right one", () -> Texts.items(right, "a ( 2 a )"), 9);
        Run left = written("( 1 a )");
        left.take();
        Due.is("a right section behind a left one", () -> Texts.items(left, "a ( a 2 )"), 9);
        Run open = written("1 a 2");
        Texts.row(open, Texts.times(40, "( a"));
        open.take();
        Due.is("40 may be open again", () -> Texts.items(open, "a " + Texts.times(40, "(")), 44);
        Due.badState(open, "but no more", () -> open.open());
        Run full = written("1 a 2");
        Texts.row(full, Texts.times(200, "-"));
        full.take();
        Due.is("200 items again", () -> Texts.items(full, Texts.times(98, "a 3") + " a"), 200);
        Due.badState(full, "but no more", () -> full.operand(1));
    }

    private static void takenAgain() {
        Due.about("Promise 16", "What was WRITTEN latest");
        Run x = written("( 1 l 2 ) b 3");
        Due.is("take()", () -> x.take(), 7);
        Texts.items(x, "l 4");
        Due.is("take() once more", () -> x.take(), 7);
        Texts.row(x, "7 n 8 n 9");
        x.resolve(0);
        Due.is("take() behind a clash", () -> x.take(), 7);
        Due.is("resolve(0)", () -> x.resolve(0), 5);
        Texts.row(x, "5");
        x.resolve(0);
        Due.is("take() behind another tree", () -> x.take(), 7);
        x.write(0);
        Due.is("take() of the next that is written", () -> x.take(), 1);
    }

    private static void takenIsNoPattern() {
        Due.about("Promise 16", "(no PATTERN)");
        Run x = Texts.with(FIXITIES);
        Texts.pattern(x, "- 1 a 2");
        x.resolve(0);
        x.write(0);
        x.begin(true);
        x.take();
        Due.is("sections may come", () -> Texts.items(x, "a ( b - ( 3 b ) )"), 13);
        Run wide = written("- 1 b 2");
        wide.begin(true);
        wide.take();
        Due.is("a negation may have more than an operand", () -> wide.resolve(0), 4);
    }

    private static void takeKeepsNumbers() {
        Due.about("Promise 16", "What was WRITTEN latest becomes the row");
        Run x = Texts.with(FIXITIES);
        x.operand(Long.MIN_VALUE);
        x.operator(1);
        x.operand(Long.MAX_VALUE);
        x.resolve(0);
        x.write(0);
        Texts.row(x, "- 5");
        x.resolve(0);
        x.take();
        x.resolve(0);
        Due.is("number(1)", () -> x.number(1), Long.MIN_VALUE);
        Due.is("number(2)", () -> x.number(2), Long.MAX_VALUE);
    }

    private static void takeLeavesTheTree() {
        Due.about("Promise 16", "What was WRITTEN latest becomes the row");
        Run x = written("( 1 l 2 ) b 3");
        Texts.row(x, "- 5");
        x.resolve(0);
        x.take();
        Due.text("the tree", Texts.tree(x), "[- 5]");
        Due.is("told(4)", () -> x.told(4), 2);
        Due.is("told(5)", () -> x.told(5), 1);
        Due.is("told(6)", () -> x.told(6), 2);
        Due.is("same(0)", () -> x.same(0), 0);
    }

    private static void takeOfNothing() {
        Due.about("Promise 16", "IllegalState: nothing was");
        Run fresh = new Run();
        Due.badState(fresh, "take() at first", () -> fresh.take());
        Run x = resolved("1 a 2");
        Due.badState(x, "take() before write()", () -> x.take());
        Run clash = resolved("1 n 2 n 3");
        Due.badState(clash, "write(0) of no tree", () -> clash.write(0));
        Due.badState(clash, "take() behind it", () -> clash.take());
    }

    // By scope 0 no "1 a 2" needs brackets as an operand of c, by scope 1 each does.
    private static Run wide(String before, String behind) {
        Run x = Texts.with("aL6 cL5 dL1");
        x.scope(0);
        Texts.tell(x, 1, "aL4");
        Texts.row(x, before + Texts.times(33, "1 a 2 c") + " " + behind);
        x.resolve(0);
        return x;
    }

    private static void takeOfTwoHundredItems() {
        Due.about("Promise 16", "or it has more than 200 items");
        Run less = wide("", "3");
        Due.is("write(1)", () -> less.write(1), 133 + 66);
        Due.is("take() of 199", () -> less.take(), 199);
        Run most = wide("- ", "3");
        Due.is("write(1)", () -> most.write(1), 134 + 66);
        Due.is("take() of 200", () -> most.take(), 200);
        Due.is("told(0)", () -> most.told(0), 200);
        Due.is("same(1)", () -> most.same(1), 1);
        Due.badState(most, "one more item", () -> most.operator(1));
        Run more = wide("", "3 d 4");
        Due.is("write(1)", () -> more.write(1), 135 + 66);
        Due.badState(more, "take() of 201", () -> more.take());
        Due.is("told(0) still", () -> more.told(0), 135);
        Due.is("its last item is there", () -> more.written(200, 0), 0);
        more.write(0);
        Due.is("take() of the next", () -> more.take(), 135);
        Run far = resolved(Texts.times(99, "1 r") + " 1");
        far.scope(0);
        Texts.tell(far, 1, "rL5");
        Due.is("write(1)", () -> far.write(1), 395);
        Due.badState(far, "take() of 395", () -> far.take());
    }

    /** By scope 1 all operators but the first have brackets, one within the other. */
    private static Run deep(int operators) {
        Run x = Texts.with("rR5");
        x.scope(0);
        Texts.tell(x, 1, "rL5");
        Texts.row(x, Texts.times(operators, "1 r") + " 2");
        x.resolve(0);
        return x;
    }

    private static void takeOfFortyOpen() {
        Due.about("Promise 16", "or more than 40 open");
        Run forty = deep(41);
        Due.is("write(1)", () -> forty.write(1), 83 + 80);
        Due.is("take() of 40 open", () -> forty.take(), 163);
        Due.is("told(1)", () -> forty.told(1), 0);
        Due.is("same(1)", () -> forty.same(1), 1);
        Run more = deep(42);
        Due.is("write(1)", () -> more.write(1), 85 + 82);
        Due.badState(more, "take() of 41 open", () -> more.take());
        Due.is("told(0) still", () -> more.told(0), 85);
        more.write(0);
        Due.is("take() with none open", () -> more.take(), 85);
        Due.is("same(0)", () -> more.same(0), 1);
        // 42 brackets, but no more than 21 open at once.
        Run apart = Texts.with("rR5 lL3");
        apart.scope(0);
        Texts.tell(apart, 1, "rL5");
        Texts.row(apart, Texts.times(22, "1 r") + " 2 l " + Texts.times(22, "1 r") + " 2");
        apart.resolve(0);
        Due.is("write(1)", () -> apart.write(1), 91 + 84);
        Due.is("take() of 42 brackets, 21 within another", () -> apart.take(), 175);
        Due.is("same(1)", () -> apart.same(1), 1);
        Run sections = resolved(Texts.times(40, "(") + " 1 " + Texts.times(40, "a )"));
        sections.write(0);
        Due.is("take() of 40 sections", () -> sections.take(), 121);
        // By scope 1 the innermost section's operand needs brackets of its own.
        Run inner = Texts.with("lL3");
        inner.scope(0);
        Texts.tell(inner, 1, "aL2");
        Texts.row(inner, Texts.times(40, "(") + " 1 a 2 l ) " + Texts.times(39, "l )"));
        inner.resolve(0);
        Due.is("write(1)", () -> inner.write(1), 125);
        Due.badState(inner, "take() of 40 sections and a bracket", () -> inner.take());
    }

    // Promise 17

    private static void same(String items, String others, boolean same) {
        Run x = resolved(items);
        Texts.row(x, others);
        Due.is("same: " + items + " and " + others, () -> x.same(0), same ? 1 : 0);
    }

    private static void sameTrees() {
        Due.about("Promise 17", "Whether the row has a RIGHT tree by a scope, and that is the TREE");
        same("1", "1", true);
        same("1", "( 1 )", true);
        same("1 a 2 b 3", "1 a ( 2 b 3 )", true);
        same("( 1 a 2 ) a 3", "1 a 2 a 3", true);
        same("( 1 a )", "( ( 1 a ) )", true);
        same("( a 1 )", "( ( a ( 1 ) ) )", true);
        same("- 1", "( - ( 1 ) )", true);
        same("1 - 2", "1 - 2", true);
    }

    private static void sameOtherTrees() {
        Due.about("Promise 17", "node by node");
        same("1", "2", false);
        same("1", "- 1", false);
        same("- 1", "1", false);
        same("1 a 2 b 3", "( 1 a 2 ) b 3", false);
        same("1 a 2 a 3", "1 a ( 2 a 3 )", false);
        same("1 a 2", "1 b 2", false);
        same("1 a 2", "2 a 1", false);
        same("1 a 2", "1 a 3", false);
        same("1 a 2", "1 a 2 a 3", false);
        same("1 a 2 a 3", "1 a 2", false);
        same("( 1 a )", "( a 1 )", false);
        same("( 1 a )", "( 1 b )", false);
        same("( 1 - )", "( - 1 )", false);
        same("( 1 - )", "- 1", false);
        same("1 - 2", "1 r - 2", false);
        Run x = new Run();
        x.operand(1);
        x.resolve(0);
        x.begin(false);
        x.operand(1 + (1L << 32));
        Due.is("numbers that differ far up", () -> x.same(0), 0);
    }

    private static void sameWithoutARightTree() {
        Due.about("Promise 17", "Whether the row has a RIGHT tree by a scope");
        same("1 n 2", "1 n 2 n 3", false);
        same("1 a 2", "1 a - 2", false);
        same("( 1 a )", "( 1 a 2 b )", false);
        same("( a 1 )", "( a 1 a 2 )", false);
        // The TREE is what was done of the row before the clash.
        for (String done : new String[] {"1", "2", "1 n 2"}) {
            same(done, "1 n 2 n 3", false);
        }
        for (String done : new String[] {"1", "2", "- 2", "1 a 2"}) {
            same(done, "1 a - 2", false);
        }
        for (String done : new String[] {"1", "2", "1 a 2", "( 2 b )"}) {
            same(done, "( 1 a 2 b )", false);
        }
        for (String done : new String[] {"1", "2", "( a 1 )", "1 a 2"}) {
            same(done, "( a 1 a 2 )", false);
        }
        for (String done : new String[] {"1", "- 1", "2", "1 b 2", "- 1 b 2"}) {
            Run x = resolved(done);
            Texts.pattern(x, "- 1 b 2");
            Due.is("same: " + done + " and - 1 b 2 in a pattern", () -> x.same(0), 0);
        }
    }

    private static void sameByTheScope() {
        Due.about("Promise 17", "by a scope");
        Run x = resolved("1 r 2 r 3");
        for (int scope = 1; scope < 30; scope++) {
            x.scope(scope - 1);
        }
        Texts.tell(x, 29, "rL5");
        Due.is("same(0)", () -> x.same(0), 1);
        Due.is("same(28)", () -> x.same(28), 1);
        Due.is("same(29)", () -> x.same(29), 0);
        Due.outOfBounds(x, "same(30)", () -> x.same(30));
    }

    private static void sameInPatterns() {
        Due.about("Terms", "in a PATTERN the child of a NEGATION is the OPERAND behind it");
        Run x = resolved("- 1 a 2");
        Texts.pattern(x, "( - 1 ) a 2");
        Due.is("the same tree of a pattern", () -> x.same(0), 1);
        Texts.pattern(x, "- 1 s 2");
        Due.is("no tree of a pattern", () -> x.same(0), 0);
    }

    private static void sameLooksAtNoPlaces() {
        Due.about("Promise 17", "places are not looked at");
        Run x = resolved("( ( 1 ) a ( 2 ) ) b 3");
        Texts.row(x, "( 1 a 2 ) b ( ( 3 ) )");
        Due.is("the same at other places", () -> x.same(0), 1);
        Due.is("the root's place", () -> x.node(0, 4), 9);
        Due.is("the last one's place", () -> x.node(4, 4), 10);
    }

    private static void sameChangesNothing() {
        Due.about("Promise 17", "nothing is changed");
        Run x = written("1 r 2 r 3");
        for (String row : new String[] {"1 n 2 n 3", "1 r ( 2 r 3 )", "1 l 2 r 3 a 4 b 5 s 6", "7", "( 1 a )"}) {
            Texts.row(x, row);
            String before = State.of(x);
            x.same(0);
            Due.text("the state behind same(0) of " + row, State.of(x), before);
        }
        Run often = resolved("1 r 2 a 3");
        Texts.row(often, Texts.times(20, "1 l (") + " 1 r 2 a - 3 " + Texts.times(20, ")"));
        for (int i = 0; i < 300; i++) {
            Due.is("same(0) of a row that clashes", () -> often.same(0), 0);
        }
        Texts.row(often, "( 1 ) r ( 2 a 3 )");
        Due.is("same(0) of one that does not", () -> often.same(0), 1);
        Texts.row(x, "1 n 2 n 3");
        x.resolve(0);
        Texts.row(x, "1");
        String before = State.of(x);
        Due.badState(x, "same(0) without a tree", () -> x.same(0));
        Due.text("the state", State.of(x), before);
    }

    private static void sameOfTheMost() {
        Due.about("Terms", "A ROW of items (200 at most)");
        Run x = resolved("- " + Texts.times(99, "1 s") + " 1");
        Due.is("the same 200 nodes", () -> x.same(0), 1);
        Texts.row(x, "- " + Texts.times(99, "1 s") + " 2");
        Due.is("the last of 200 nodes differs", () -> x.same(0), 0);
    }

    private static void sameByNoScope() {
        Due.about("Promise 17", "IndexOutOfBounds");
        Run x = resolved("1 a 2");
        for (int scope : new int[] {-1, 1, 29, 30, LEAST, MOST}) {
            Due.outOfBounds(x, "same(" + scope + ")", () -> x.same(scope));
        }
        Due.about("Terms", "Of several the first one in this order.");
        Texts.items(x, "a");
        Due.outOfBounds(x, "same(1) while an operand is due", () -> x.same(1));
        Texts.items(x, "( 2");
        Due.outOfBounds(x, "same(-1) while a bracket is open", () -> x.same(-1));
        Run fresh = new Run();
        Due.outOfBounds(fresh, "same(1) of an empty row and no tree", () -> fresh.same(1));
        fresh.operand(1);
        Due.outOfBounds(fresh, "same(1) of no tree", () -> fresh.same(1));
    }

    private static void sameOfARowThatIsNotWhole() {
        Due.about("Promise 17", "IllegalState: as resolve()");
        for (String row : new String[] {"", "1 a", "-", "(", "( 1", "( ( 1 )", "( 1 a", "( a 1"}) {
            Run x = resolved("1 a 2");
            Texts.row(x, row);
            Due.badState(x, "same(0) of " + Texts.quoted(row), () -> x.same(0));
            Run none = new Run();
            Texts.row(none, row);
            Due.badState(none, "same(0) of " + Texts.quoted(row) + " and no tree", () -> none.same(0));
        }
        Run pattern = resolved("1 a 2");
        pattern.begin(true);
        Due.badState(pattern, "same(0) of an empty pattern", () -> pattern.same(0));
    }

    private static void sameWithoutATree() {
        Due.about("Promise 17", "or there is no TREE");
        Run fresh = new Run();
        fresh.operand(1);
        Due.badState(fresh, "same(0) at first", () -> fresh.same(0));
        Run clash = resolved("1 a 2");
        Texts.row(clash, "1 n 2 n 3");
        clash.resolve(0);
        Due.badState(clash, "same(0) of a row that clashes", () -> clash.same(0));
        Texts.row(clash, "1 a 2");
        Due.badState(clash, "same(0) of a whole row", () -> clash.same(0));
    }
}

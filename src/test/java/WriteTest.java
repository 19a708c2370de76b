/** Promises 14 to 17: write, written, take, same. */
public final class WriteTest {
    private static final String FIXITIES = "aL6 bL7 rR5 sR8 qR6 nN4 mN7 lL3 pR3";

    public static void main(String[] args) {
        leastBrackets();
        bracketsByAnotherScope();
        writtenItems();
        writeRefuses();
        writtenRefuses();
        writtenStays();
        taken();
        takenIsNoPattern();
        takeRefuses();
        sameTrees();
        sameChangesNothing();
        sameInPatterns();
        sameRefuses();
        Due.end();
    }

    private static FixityTrees resolved(String items) {
        FixityTrees x = Texts.with(FIXITIES);
        Texts.row(x, items);
        x.resolve(0);
        return x;
    }

    /** Operands stand in what was written in the order that they had, so that only their nodes differ. */
    private static String shape(String written) {
        return written.replaceAll("#[0-9]+", "#");
    }

    private static void written(String items, String due) {
        FixityTrees x = resolved(items);
        int size = due.split(" ").length;
        Due.is("write " + items, () -> x.write(0), size);
        Due.text("written " + items, shape(Texts.written(x)), due);
        Due.is("take " + items, () -> x.take(), size);
        Due.is("same " + items, () -> x.same(0) ? 1 : 0, 1);
    }

    private static void leastBrackets() {
        written("1", "#");
        written("( ( 1 ) )", "#");
        written("( 1 a 2 )", "# a #");
        written("( 1 b 2 ) a ( 3 b 4 )", "# b # a # b #");
        written("( 1 a 2 ) b 3", "( # a # ) b #");
        written("1 a ( 2 a 3 )", "# a ( # a # )");
        written("( 1 a 2 ) a 3", "# a # a #");
        written("( 1 r 2 ) r 3", "( # r # ) r #");
        written("1 r ( 2 r 3 )", "# r # r #");
        written("1 n ( 2 n 3 )", "# n ( # n # )");
        written("( 1 n 2 ) n 3", "( # n # ) n #");
        written("1 l ( 2 p 3 )", "# l ( # p # )");
        written("( 1 l 2 ) p 3", "( # l # ) p #");
        written("( - 1 ) a 2", "- # a #");
        written("( - 1 ) b 2", "( - # ) b #");
        written("( - 1 ) q 2", "( - # ) q #");
        written("1 a ( - 2 )", "# a ( - # )");
        written("1 r ( - 2 )", "# r - #");
        written("1 q ( - 2 )", "# q ( - # )");
        written("- ( - 1 )", "- ( - # )");
        written("- ( 1 a 2 )", "- ( # a # )");
        written("- ( 1 b 2 )", "- # b #");
        written("( ( a 1 ) )", "( a # )");
        written("( ( 1 a ) )", "( # a )");
        written("( a ( 1 b 2 ) )", "( a # b # )");
        written("( a ( 1 a 2 ) )", "( a ( # a # ) )");
        written("( r ( 1 r 2 ) )", "( r # r # )");
        written("( ( 1 a 2 ) a )", "( # a # a )");
        written("( ( 1 a 2 ) b )", "( ( # a # ) b )");
        written("( ( 1 r 2 ) r )", "( ( # r # ) r )");
        written("( ( - 1 ) a )", "( - # a )");
        written("( ( - 1 ) b )", "( ( - # ) b )");
        written("( n ( - 1 ) )", "( n - # )");
        written("( a ( - 1 ) )", "( a ( - # ) )");
        written("( ( 1 a ) b ( c 2 ) )", "( # a ) b ( c # )");
        written("- ( 1 a )", "- ( # a )");
        written("( ( 1 a ) a )", "( ( # a ) a )");
    }

    private static void bracketsByAnotherScope() {
        FixityTrees x = resolved("1 a 2 b 3");
        x.scope(0);
        Texts.tell(x, 1, "aR9");
        x.scope(0);
        Texts.tell(x, 2, "aL9 bL9");
        x.scope(2);
        Texts.tell(x, 3, "bR9 aR9");
        Due.is("write(0)", () -> x.write(0), 5);
        Due.text("by scope 0", Texts.written(x), "#1 a #3 b #4");
        Due.is("write(1)", () -> x.write(1), 7);
        Due.text("by scope 1", Texts.written(x), "#1 a ( #3 b #4 )");
        Due.is("write(2)", () -> x.write(2), 7);
        Due.text("by scope 2", Texts.written(x), "#1 a ( #3 b #4 )");
        Due.is("write(3)", () -> x.write(3), 5);
        Due.text("by scope 3", Texts.written(x), "#1 a #3 b #4");
    }

    private static void writtenItems() {
        FixityTrees x = resolved("( ( - 1 ) b 2 ) l ( 3 a )");
        x.write(0);
        int n = FixityTrees.NONE;
        int[][] due = {
            {3, n, 2}, {2, 0, 2}, {0, n, 3}, {4, n, 2}, {1, 2, 1}, {0, n, 4}, {1, 12, 0},
            {3, n, 5}, {0, n, 6}, {1, 1, 5}, {4, n, 5},
        };
        for (int i = 0; i < due.length; i++) {
            for (int what = 0; what < 3; what++) {
                int item = i;
                int w = what;
                Due.is("written(" + i + ", " + what + ")", () -> x.written(item, w), due[i][what]);
            }
        }
        Due.outOfBounds(x, "written(11, 0)", () -> x.written(11, 0));
        Texts.row(x, "( b 1 )");
        x.resolve(0);
        x.write(0);
        int[][] section = {{3, n, 0}, {1, 2, 0}, {0, n, 1}, {4, n, 0}};
        for (int i = 0; i < section.length; i++) {
            for (int what = 0; what < 3; what++) {
                int item = i;
                int w = what;
                Due.is("section: written(" + i + ", " + what + ")", () -> x.written(item, w), section[i][what]);
            }
        }
    }

    private static void writeRefuses() {
        FixityTrees x = new FixityTrees();
        Due.badState(x, "write(0) at first", () -> x.write(0));
        Due.outOfBounds(x, "write(1)", () -> x.write(1));
        Due.outOfBounds(x, "write(-1)", () -> x.write(-1));
        FixityTrees y = resolved("1 n 2");
        y.write(0);
        Due.outOfBounds(y, "write(1)", () -> y.write(1));
        Texts.row(y, "1 n 2 n 3");
        y.resolve(0);
        Due.badState(y, "write(0) behind a clash", () -> y.write(0));
        Due.text("what was written stays", Texts.written(y), "#1 n #2");
    }

    private static void writtenRefuses() {
        FixityTrees x = resolved("1 a 2");
        Due.outOfBounds(x, "written(0, 0) at first", () -> x.written(0, 0));
        Due.outOfBounds(x, "written(0, 9) at first", () -> x.written(0, 9));
        x.write(0);
        Due.outOfBounds(x, "written(3, 0)", () -> x.written(3, 0));
        Due.outOfBounds(x, "written(-1, 0)", () -> x.written(-1, 0));
        Due.outOfBounds(x, "written(-1, 3)", () -> x.written(-1, 3));
        Due.badArgument(x, "written(2, 3)", () -> x.written(2, 3));
        Due.badArgument(x, "written(0, -1)", () -> x.written(0, -1));
        // A shorter one leaves nothing of the longer one before it.
        Texts.row(x, "1");
        x.resolve(0);
        x.write(0);
        Due.outOfBounds(x, "written(1, 0)", () -> x.written(1, 0));
    }

    private static void writtenStays() {
        FixityTrees x = resolved("( 11 a 12 ) b 13");
        x.write(0);
        String written = Texts.written(x);
        Texts.row(x, "- 5");
        x.resolve(0);
        Due.text("behind another resolve", Texts.written(x), written);
        Texts.row(x, "1 n 2 n 3");
        x.resolve(0);
        Due.text("behind a clash", Texts.written(x), written);
        Due.is("taken", () -> x.take(), 7);
        Due.is("resolved again", () -> x.resolve(0), 5);
        Due.text("with the numbers that it had", Texts.tree(x), "[[11 a 12] b 13]");
        Due.text("behind take", Texts.written(x), written);
    }

    private static void taken() {
        FixityTrees x = resolved("( 11 a ) b ( - 12 )");
        x.write(0);
        Texts.row(x, "( ( 9");
        Due.is("take()", () -> x.take(), 9);
        Due.is("told(0)", () -> x.told(0), 9);
        Due.is("told(1)", () -> x.told(1), 0);
        Due.is("told(2)", () -> x.told(2), 0);
        Due.text("the tree stays", Texts.tree(x), "[[11 a _] b [- 12]]");
        Due.badState(x, "no operand is due", () -> x.operand(1));
        Due.badState(x, "no bracket is open", () -> x.close());
        Due.is("an operator", () -> x.operator(12), 10);
        Due.is("and an operand", () -> x.operand(13), 11);
        Due.is("resolve(0)", () -> x.resolve(0), 7);
        Due.text("the tree", Texts.tree(x), "[[[11 a _] b [- 12]] l 13]");
        Due.is("place of the root", () -> x.node(0, 4), 9);
        // A right section that was taken says nothing of the groups that come.
        Texts.row(x, "( a 1 )");
        x.resolve(0);
        x.write(0);
        x.take();
        Due.is("a left section behind it", () -> Texts.items(x, "a ( 2 a )"), 9);
        Due.is("it may be taken again", () -> x.take(), 4);
    }

    private static void takenIsNoPattern() {
        FixityTrees x = Texts.with(FIXITIES);
        Texts.pattern(x, "- 1 a 2");
        x.resolve(0);
        x.write(0);
        x.begin(true);
        x.take();
        Due.is("a section may come", () -> Texts.items(x, "a ( b - ( 3 b ) )"), 13);
    }

    private static FixityTrees chain(String operator, int operands) {
        FixityTrees x = new FixityTrees();
        Texts.tell(x, 0, "aR5 bL5");
        x.scope(0);
        Texts.tell(x, 1, "aL5 bR5");
        x.begin(false);
        for (int i = 1; i < operands; i++) {
            Texts.items(x, "1 " + operator);
        }
        Texts.items(x, "2");
        x.resolve(0);
        return x;
    }

    private static void takeRefuses() {
        FixityTrees x = resolved("1 a 2");
        Due.badState(x, "nothing was written", () -> x.take());

        // 42 operands: 41 operators, 40 of them in brackets one within the other.
        FixityTrees forty = chain("a", 42);
        Due.is("40 open", () -> forty.write(1), 83 + 80);
        Due.is("40 open are taken", () -> forty.take(), 163);
        Due.is("and are the same", () -> forty.same(1) ? 1 : 0, 1);
        FixityTrees more = chain("a", 43);
        Due.is("41 open", () -> more.write(1), 85 + 82);
        Due.badState(more, "41 open", () -> more.take());
        Due.is("the row stays", () -> more.told(0), 85);
        more.write(0);
        Due.is("a later one with none open", () -> more.take(), 85);
        FixityTrees most = chain("b", 100);
        Due.is("the longest chain", () -> most.write(1), 199 + 196);
        Due.badState(most, "more than 200 items", () -> most.take());
        Due.is("its last item", () -> most.written(394, 0), 0);
        Due.outOfBounds(most, "one behind", () -> most.written(395, 0));
        takeCountsItems();
    }

    // By scope 0 no "1 a 2" needs brackets as an operand of c, by scope 1 each does.
    private static void takeCountsItems() {
        FixityTrees x = new FixityTrees();
        Texts.tell(x, 0, "aL6 cL5 dL1");
        x.scope(0);
        Texts.tell(x, 1, "aL4");
        x.begin(false);
        for (int i = 0; i < 33; i++) {
            Texts.items(x, "1 a 2 c");
        }
        Texts.items(x, "3");
        x.resolve(0);
        Due.is("199 items", () -> x.write(1), 133 + 66);
        Due.is("199 are taken", () -> x.take(), 199);
        Texts.row(x, "-");
        for (int i = 0; i < 33; i++) {
            Texts.items(x, "1 a 2 c");
        }
        Texts.items(x, "3");
        x.resolve(0);
        Due.is("200 items", () -> x.write(1), 134 + 66);
        Due.is("200 are taken", () -> x.take(), 200);
        Due.is("and are the same", () -> x.same(1) ? 1 : 0, 1);
        x.begin(false);
        for (int i = 0; i < 33; i++) {
            Texts.items(x, "1 a 2 c");
        }
        Texts.items(x, "3 d 4");
        x.resolve(0);
        Due.is("201 items", () -> x.write(1), 135 + 66);
        Due.badState(x, "201 items", () -> x.take());
    }

    private static void same(String items, String others, boolean same) {
        FixityTrees x = resolved(items);
        Texts.row(x, others);
        Due.is("same: " + items + " and " + others, () -> x.same(0) ? 1 : 0, same ? 1 : 0);
    }

    private static void sameTrees() {
        same("1", "1", true);
        same("1", "( 1 )", true);
        same("1", "2", false);
        same("1", "- 1", false);
        same("1 a 2 b 3", "1 a ( 2 b 3 )", true);
        same("1 a 2 b 3", "( 1 a 2 ) b 3", false);
        same("1 a 2 a 3", "1 a ( 2 a 3 )", false);
        same("1 a 2", "1 b 2", false);
        same("1 a 2", "2 a 1", false);
        same("1 a 2", "1 a 2 a 3", false);
        same("( 1 a )", "( a 1 )", false);
        same("( 1 a )", "( ( 1 a ) )", true);
        same("( 1 - )", "( - 1 )", false);
        same("( 1 - )", "- 1", false);
        same("1 n 2", "1 n 2 n 3", false);
        same("1 - 2", "1 r - 2", false);
        same("( 1 a 2 ) a 3", "1 a 2 a 3", true);
    }

    private static void sameChangesNothing() {
        FixityTrees x = resolved("1 r 2 r 3");
        x.write(0);
        Texts.row(x, "1 n 2 n 3");
        String before = Texts.state(x);
        Due.is("a row that clashes", () -> x.same(0) ? 1 : 0, 0);
        Due.text("the state", Texts.state(x), before);
        Texts.row(x, "1 r ( 2 r 3 )");
        String then = Texts.state(x);
        Due.is("the same with other places", () -> x.same(0) ? 1 : 0, 1);
        Due.text("the state", Texts.state(x), then);
        Texts.row(x, "1 l 2 r 3 a 4 b 5 s 6");
        String last = Texts.state(x);
        Due.is("a row where more wait", () -> x.same(0) ? 1 : 0, 0);
        Due.text("the state", Texts.state(x), last);
        x.scope(0);
        Texts.tell(x, 1, "rL5");
        Texts.row(x, "1 r 2 r 3");
        Due.is("by scope 0", () -> x.same(0) ? 1 : 0, 1);
        Due.is("by scope 1", () -> x.same(1) ? 1 : 0, 0);
    }

    private static void sameInPatterns() {
        FixityTrees x = resolved("- 1 b 2");
        Texts.pattern(x, "- 1 b 2");
        Due.is("no pattern has this tree", () -> x.same(0) ? 1 : 0, 0);
        Texts.row(x, "- 1 a 2");
        x.resolve(0);
        Texts.pattern(x, "( - 1 ) a 2");
        Due.is("a pattern may have this one", () -> x.same(0) ? 1 : 0, 1);
    }

    private static void sameRefuses() {
        FixityTrees x = Texts.with(FIXITIES);
        Texts.row(x, "1");
        Due.badState(x, "no tree", () -> x.same(0) ? 1 : 0);
        x.resolve(0);
        Due.outOfBounds(x, "no scope", () -> x.same(1) ? 1 : 0);
        Due.outOfBounds(x, "no scope", () -> x.same(-1) ? 1 : 0);
        Texts.items(x, "a");
        Due.badState(x, "an operand is due", () -> x.same(0) ? 1 : 0);
        Texts.items(x, "( 2");
        Due.badState(x, "a bracket is open", () -> x.same(0) ? 1 : 0);
        Due.outOfBounds(x, "no scope first", () -> x.same(1) ? 1 : 0);
        x.begin(false);
        Due.badState(x, "an empty row", () -> x.same(0) ? 1 : 0);
        Texts.row(x, "1 n 2 n 3");
        x.resolve(0);
        Due.badState(x, "behind a clash", () -> x.same(0) ? 1 : 0);
    }

}

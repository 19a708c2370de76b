/** Promises 5 to 9 and what told() says of the row: begin, operand, operator, open, close. */
public final class RowTest {
    public static void main(String[] args) {
        beginEmptiesTheRow();
        whatMayComeFirst();
        whatMayComeBehind();
        rightSections();
        leftSections();
        patterns();
        twoHundredItems();
        fortyOpen();
        Due.end();
    }

    private static FixityTrees holding(String items) {
        FixityTrees x = new FixityTrees();
        Texts.row(x, items);
        return x;
    }

    private static FixityTrees holdingPattern(String items) {
        FixityTrees x = new FixityTrees();
        Texts.pattern(x, items);
        return x;
    }

    private static void told(FixityTrees x, int items, int open, int due) {
        Due.is("told(0)", () -> x.told(0), items);
        Due.is("told(1)", () -> x.told(1), open);
        Due.is("told(2)", () -> x.told(2), due);
    }

    /** Tries each kind of item behind a row; may has those of "1 - a ( )" that may come. */
    private static void next(String row, boolean pattern, String may) {
        for (String item : "1 - a ( )".split(" ")) {
            FixityTrees x = pattern ? holdingPattern(row) : holding(row);
            String call = item + " behind \"" + row + "\"" + (pattern ? " in a pattern" : "");
            if (may.contains(item)) {
                int size = x.told(0);
                Due.is(call, () -> Texts.items(x, item), size + 1);
                Due.is(call + ": told(0)", () -> x.told(0), size + 1);
            } else {
                Due.badState(x, call, () -> Texts.items(x, item));
            }
        }
    }

    private static void beginEmptiesTheRow() {
        FixityTrees x = holding("( ( 1");
        told(x, 3, 2, 0);
        x.begin(false);
        told(x, 0, 0, 1);
        Texts.row(x, "1 a 2");
        x.resolve(0);
        x.write(0);
        x.begin(true);
        told(x, 0, 0, 1);
        Due.text("the tree stays", Texts.tree(x), "[1 a 2]");
        Due.text("what was written stays", Texts.written(x), "#1 a #2");
    }

    private static void whatMayComeFirst() {
        next("", false, "1 - (");
        next("", true, "1 - (");
        FixityTrees x = new FixityTrees();
        Due.outOfBounds(x, "operator(41)", () -> x.operator(41));
        Due.outOfBounds(x, "operator(-1)", () -> x.operator(-1));
        Due.badState(x, "operator(40)", () -> x.operator(40));
        x.operand(Long.MIN_VALUE);
        Due.outOfBounds(x, "operator(41)", () -> x.operator(41));
        Due.is("operator(40)", () -> x.operator(40), 2);
    }

    private static void whatMayComeBehind() {
        next("1", false, "- a");
        next("( 1", false, "- a )");
        next("1 a", false, "1 - (");
        next("1 -", false, "1 - (");
        next("-", false, "1 - (");
        next("- -", false, "1 - (");
        next("1 a -", false, "1 - (");
        next("(", false, "1 - a (");
        next("( 1 )", false, "- a");
        next("( ( 1 )", false, "- a )");
        told(holding("1"), 1, 0, 0);
        told(holding("1 a"), 2, 0, 1);
        told(holding("-"), 1, 0, 1);
        told(holding("( 1"), 2, 1, 0);
        told(holding("( ( 1 )"), 4, 1, 0);
        told(holding("( 1 a )"), 4, 0, 0);
    }

    private static void rightSections() {
        next("( a", false, "1 - (");
        next("( a 1", false, "- a )");
        next("( a 1 b", false, "1 - (");
        next("( a 1 -", false, "1 - (");
        next("( a -", false, "1 - (");
        next("( a ( 1 b )", false, "- a )");
        next("( a ( 1 b", false, "1 - ( )");
        next("( a ( b 1 ) c", false, "1 - (");
        // What a closed group was says nothing of the next one at its depth.
        next("( a 1 ) b ( 2 c", false, "1 - ( )");
        next("( ( a 1 ) b", false, "1 - ( )");
    }

    private static void leftSections() {
        next("( 1 a", false, "1 - ( )");
        next("( 1 -", false, "1 - ( )");
        next("( 1 a -", false, "1 - (");
        next("( -", false, "1 - (");
        next("( - 1", false, "- a )");
        next("( - 1 a", false, "1 - ( )");
        next("( 1 a )", false, "- a");
    }

    private static void patterns() {
        next("1", true, "- a");
        next("-", true, "1");
        next("1 a", true, "1 - (");
        next("1 a -", true, "1");
        next("1 -", true, "1 - (");
        next("(", true, "1 - (");
        next("( -", true, "1");
        next("( 1", true, "- a )");
        next("( 1 a", true, "1 - (");
        next("- 1", true, "- a");
        // A pattern is one until begin().
        FixityTrees x = holdingPattern("-");
        x.begin(false);
        Due.is("sections come again", () -> Texts.items(x, "( a - ( 1 a ) )"), 8);
    }

    private static void twoHundredItems() {
        FixityTrees x = new FixityTrees();
        for (int i = 0; i < 99; i++) {
            Texts.items(x, "1 a");
        }
        Texts.items(x, "(");
        Due.is("the 200th item", () -> x.operand(7), 200);
        told(x, 200, 1, 0);
        Due.badState(x, "the 201st: operator", () -> x.operator(1));
        Due.badState(x, "the 201st: close", () -> x.close());
        Due.outOfBounds(x, "the 201st: no operator", () -> x.operator(41));

        x.begin(false);
        for (int i = 0; i < 199; i++) {
            Texts.items(x, "-");
        }
        Due.is("the 200th item", () -> x.operator(0), 200);
        told(x, 200, 0, 1);
        Due.badState(x, "the 201st: operand", () -> x.operand(1));
        Due.badState(x, "the 201st: open", () -> x.open());
        Due.badState(x, "the 201st: negation", () -> x.operator(0));
    }

    private static void fortyOpen() {
        FixityTrees x = new FixityTrees();
        for (int i = 1; i <= 40; i++) {
            int size = i;
            Due.is("open() " + i, () -> x.open(), size);
        }
        told(x, 40, 40, 1);
        Due.badState(x, "the 41st open bracket", () -> x.open());
        Texts.items(x, "a 1");
        Due.is("close()", () -> x.close(), 43);
        Due.is("an operator", () -> x.operator(1), 44);
        Due.is("open() again", () -> x.open(), 45);
        told(x, 45, 40, 1);
    }
}

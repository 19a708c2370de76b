/** Promises 5 to 9, and what the terms say of rows: begin, operand, operator, open, close. */
public final class RowTest {
    private static final int LEAST = Integer.MIN_VALUE;
    private static final int MOST = Integer.MAX_VALUE;
    private static final boolean PATTERN = true;
    private static final boolean NO_PATTERN = false;

    public static void main(String[] args) {
        beginEmptiesTheRow();
        beginIsAPatternOrNot();
        beginLeavesTheTree();

        operandAnswersHowMany();
        operandWhereItMayCome();
        operandWhereItMayNotCome();
        operandBehindTwoHundred();

        operatorAnswersHowMany();
        operatorIsNone();
        operatorWhereItMayCome();
        operatorWhereItMayNotCome();
        operatorBehindTwoHundred();

        openWhereItMayCome();
        openWhereItMayNotCome();
        openBehindTwoHundred();
        openBehindForty();

        closeWhereItMayCome();
        closeWhereItMayNotCome();
        closeBehindTwoHundred();
        closeAfterForty();

        patternsHaveNoSections();
        patternsNegateOperands();
        Due.end();
    }

    private static Run holding(boolean pattern, String items) {
        Run x = new Run();
        x.begin(pattern);
        Texts.items(x, items);
        return x;
    }

    private static void told(Run x, int items, int open, int due) {
        Due.is("told(0)", () -> x.told(0), items);
        Due.is("told(1)", () -> x.told(1), open);
        Due.is("told(2)", () -> x.told(2), due);
    }

    private static void may(String item, boolean pattern, String... rows) {
        for (String row : rows) {
            Run x = holding(pattern, row);
            int size = Texts.size(row) + 1;
            String call = item + " behind " + Texts.quoted(row);
            Due.is(call, () -> Texts.items(x, item), size);
            Due.is("told(0) with " + call, () -> x.told(0), size);
        }
    }

    private static void mayNot(String item, boolean pattern, String... rows) {
        for (String row : rows) {
            Run x = holding(pattern, row);
            Due.badState(x, item + " behind " + Texts.quoted(row), () -> Texts.items(x, item));
        }
    }

    // Promise 5

    private static void beginEmptiesTheRow() {
        Due.about("Promise 5", "An empty row");
        String[] rows = {"", "1", "1 a", "( ( 1", "( a 1", "-", "( 1 a )", Texts.times(200, "-"), Texts.times(40, "(")};
        for (String row : rows) {
            Run x = holding(NO_PATTERN, row);
            x.begin(false);
            told(x, 0, 0, 1);
            Due.badState(x, "close()", () -> x.close());
            Due.badState(x, "operator(1)", () -> x.operator(1));
            Due.badState(x, "resolve(0)", () -> x.resolve(0));
            Due.is("operand(1)", () -> x.operand(1), 1);
        }
        Run full = holding(NO_PATTERN, Texts.times(200, "-"));
        full.begin(false);
        Due.is("200 items again", () -> Texts.items(full, Texts.times(200, "-")), 200);
        Run open = holding(NO_PATTERN, Texts.times(40, "( a"));
        open.begin(false);
        Due.is("40 open again", () -> Texts.items(open, Texts.times(40, "(")), 40);
        Due.is("what was a right section is none", () -> Texts.items(open, "1 a )"), 43);
    }

    private static void beginIsAPatternOrNot() {
        Due.about("Promise 5", "a PATTERN or not");
        Run x = new Run();
        for (int turn = 0; turn < 2; turn++) {
            x.begin(true);
            x.open();
            Due.badState(x, "a section in a pattern", () -> x.operator(1));
            x.begin(true);
            x.operator(0);
            Due.badState(x, "OPEN behind a negation in a pattern", () -> x.open());
            x.begin(false);
            Due.is("a section in no pattern", () -> Texts.items(x, "( a"), 2);
            x.begin(false);
            Due.is("OPEN behind a negation in no pattern", () -> Texts.items(x, "- ("), 2);
        }
    }

    private static void beginLeavesTheTree() {
        Due.about("Promise 5", "(The TREE stays.)");
        for (boolean pattern : new boolean[] {false, true}) {
            Run x = Texts.with("rR5 nN4");
            Texts.row(x, "1 r 2 r - 3");
            x.resolve(0);
            x.write(0);
            x.begin(pattern);
            Due.text("the tree", Texts.tree(x), "[1 r [2 r [- 3]]]");
            Due.text("what was written", Texts.written(x), "#1 r #3 r - #5");
            Due.is("told(4)", () -> x.told(4), 6);
            Due.is("told(5)", () -> x.told(5), 3);
            Due.is("told(6)", () -> x.told(6), 4);
            Due.is("its last number", () -> x.number(5), 3);
            Texts.row(x, "1 n 2 n 3");
            x.resolve(0);
            x.begin(pattern);
            Due.is("no tree stays none", () -> x.told(4), 0);
            Due.is("the clash stays", () -> x.clash(0), 1);
        }
    }

    // Promise 6

    private static void operandAnswersHowMany() {
        Due.about("Promise 6", "An OPERAND comes to the row: how many items.");
        long[] numbers = {0, 1, -1, Integer.MAX_VALUE + 1L, Long.MIN_VALUE, Long.MAX_VALUE};
        for (long number : numbers) {
            Run x = new Run();
            Due.is("operand(" + number + ")", () -> x.operand(number), 1);
            told(x, 1, 0, 0);
            x.resolve(0);
            Due.is("number(0)", () -> x.number(0), number);
        }
    }

    private static void operandWhereItMayCome() {
        Due.about("Terms", "An operand is DUE at first, behind an operator or MINUS, behind OPEN");
        String[] rows = {"", "1 a", "1 -", "-", "- -", "1 a -", "(", "( (", "( 1 a", "( 1 -", "( -", "( a", "( a -",
            "( a 1 b", "1 a (", "( 1 ) a", "( 1 a ) b"};
        may("1", NO_PATTERN, rows);
        may("1", PATTERN, "", "1 a", "1 -", "-", "1 a -", "(", "( 1 a", "( -", "( 1 ) a");
        for (String row : rows) {
            Due.is("told(2) of " + Texts.quoted(row), () -> holding(NO_PATTERN, row).told(2), 1);
        }
    }

    private static void operandWhereItMayNotCome() {
        Due.about("Promise 6", "IllegalState: it may not come there");
        String[] rows = {"1", "1 a 2", "- 1", "( 1", "( a 1", "( 1 )", "( 1 a )", "( a 1 )", "( ( 1 )", "( ( 1 ) )"};
        mayNot("1", NO_PATTERN, rows);
        mayNot("1", PATTERN, "1", "1 a 2", "- 1", "( 1", "( 1 )");
        Due.about("Terms", "else an operator is (behind an OPERAND or CLOSE)");
        for (String row : rows) {
            Due.is("told(2) of " + Texts.quoted(row), () -> holding(NO_PATTERN, row).told(2), 0);
        }
    }

    private static void operandBehindTwoHundred() {
        Due.about("Promise 6", "or there are 200");
        may("1", NO_PATTERN, Texts.times(198, "-"), Texts.times(199, "-"));
        may("1", PATTERN, Texts.times(99, "1 a") + " -");
        mayNot("1", NO_PATTERN, Texts.times(200, "-"), Texts.times(100, "1 a"), Texts.times(199, "-") + " (");
        mayNot("1", PATTERN, Texts.times(100, "1 a"));
        Run x = holding(NO_PATTERN, Texts.times(99, "1 a") + " 2");
        told(x, 199, 0, 0);
        x.operator(1);
        told(x, 200, 0, 1);
    }

    // Promise 7

    private static void operatorAnswersHowMany() {
        Due.about("Promise 7", "An operator, or MINUS as a NEGATION.");
        for (int operator : new int[] {0, 1, 39, 40}) {
            Run x = new Run();
            x.operand(1);
            Due.is("operator(" + operator + ")", () -> x.operator(operator), 2);
            told(x, 2, 0, 1);
            x.operand(2);
            x.resolve(0);
            Due.is("its node's kind", () -> x.node(0, 0), 1);
            Due.is("its node's operator", () -> x.node(0, 1), operator);
        }
        Due.about("Terms", "0 is MINUS");
        Run x = new Run();
        Due.is("operator(0) at first", () -> x.operator(0), 1);
        told(x, 1, 0, 1);
        x.operand(2);
        x.resolve(0);
        Due.is("its node's kind", () -> x.node(0, 0), 2);
        Due.is("its node's operator", () -> x.node(0, 1), 0);
    }

    private static void operatorIsNone() {
        Due.about("Promise 7", "IndexOutOfBounds");
        for (int operator : new int[] {-1, 41, 42, LEAST, MOST}) {
            Run x = holding(NO_PATTERN, "1");
            Due.outOfBounds(x, "operator(" + operator + ")", () -> x.operator(operator));
            Due.is("operator(40) behind it", () -> x.operator(40), 2);
            Run section = holding(NO_PATTERN, "(");
            Due.outOfBounds(section, "operator(" + operator + ")", () -> section.operator(operator));
            Due.is("operator(40) behind it", () -> section.operator(40), 2);
        }
        Due.about("Terms", "Of several the first one in this order.");
        for (int operator : new int[] {-1, 41}) {
            for (String row : new String[] {"", "1 a", "-", Texts.times(200, "-"), Texts.times(199, "-") + " 1"}) {
                Run x = holding(NO_PATTERN, row);
                Due.outOfBounds(x, "operator(" + operator + ") where none may come", () -> x.operator(operator));
            }
            Run pattern = holding(PATTERN, "(");
            Due.outOfBounds(pattern, "operator(" + operator + ") in a pattern", () -> pattern.operator(operator));
        }
    }

    private static void operatorWhereItMayCome() {
        Due.about("Terms", "Where an operator is DUE: an operator (MINUS, too: it is one of two operands then)");
        for (String item : new String[] {"a", "-"}) {
            may(item, NO_PATTERN, "1", "1 a 2", "- 1", "( 1", "( a 1", "( 1 )", "( 1 a )", "( a 1 )", "( ( 1 )");
            may(item, PATTERN, "1", "1 a 2", "- 1", "( 1", "( 1 )");
        }
        Due.about("Terms", "MINUS, a NEGATION");
        may("-", NO_PATTERN, "", "-", "1 a", "1 -", "(", "( -", "( a", "( a 1 b", "( 1 a");
        may("-", PATTERN, "", "1 a", "1 -", "(", "( 1 a");
        Due.about("Terms", "right behind OPEN another operator, the group is a RIGHT SECTION then");
        may("a", NO_PATTERN, "(", "( (", "1 a (", "- (", "( a (", "( 1 a (");
    }

    private static void operatorWhereItMayNotCome() {
        Due.about("Promise 7", "IllegalState: likewise.");
        mayNot("a", NO_PATTERN, "", "1 a", "1 -", "-", "- -", "( a", "( -", "( a -", "( 1 a", "( 1 -", "( a 1 b", "( 1 ) a");
        mayNot("a", PATTERN, "", "1 a", "1 -", "-", "(", "( (", "( -", "1 a (");
        Run x = new Run();
        Due.badState(x, "operator(40) at first", () -> x.operator(40));
    }

    private static void operatorBehindTwoHundred() {
        Due.about("Promise 7", "IllegalState: likewise.");
        String whole = Texts.times(99, "1 a") + " 1";
        may("a", NO_PATTERN, whole);
        may("-", NO_PATTERN, whole, Texts.times(199, "-"));
        may("a", NO_PATTERN, Texts.times(198, "-") + " (");
        mayNot("a", NO_PATTERN, Texts.times(99, "1 a") + " ( 1", "- " + whole, Texts.times(199, "-") + " (");
        mayNot("-", NO_PATTERN, Texts.times(99, "1 a") + " ( 1", "- " + whole, Texts.times(200, "-"));
        mayNot("a", PATTERN, "- " + whole);
        mayNot("-", PATTERN, "- " + whole, Texts.times(100, "1 a"));
    }

    // Promise 8

    private static void openWhereItMayCome() {
        Due.about("Terms", "Where an operand is DUE may come: OPERAND; OPEN");
        may("(", NO_PATTERN, "", "1 a", "1 -", "-", "- -", "1 a -", "(", "( a", "( -", "( a -", "( 1 a", "( a 1 b", "( 1 ) a");
        may("(", PATTERN, "", "1 a", "1 -", "(", "( 1 a", "( 1 ) a");
        Due.about("Promise 8", "OPEN.");
        told(holding(NO_PATTERN, "("), 1, 1, 1);
        told(holding(NO_PATTERN, "1 a ("), 3, 1, 1);
    }

    private static void openWhereItMayNotCome() {
        Due.about("Promise 8", "IllegalState: likewise");
        mayNot("(", NO_PATTERN, "1", "1 a 2", "- 1", "( 1", "( a 1", "( 1 )", "( 1 a )", "( a 1 )", "( ( 1 )");
        mayNot("(", PATTERN, "1", "( 1", "( 1 )", "-", "1 a -", "( -");
    }

    private static void openBehindTwoHundred() {
        Due.about("Promise 8", "IllegalState: likewise");
        may("(", NO_PATTERN, Texts.times(199, "-"), Texts.times(160, "-") + " " + Texts.times(39, "("));
        mayNot("(", NO_PATTERN, Texts.times(200, "-"), Texts.times(100, "1 a"), Texts.times(161, "-") + " " + Texts.times(39, "("));
        mayNot("(", PATTERN, Texts.times(100, "1 a"));
    }

    private static void openBehindForty() {
        Due.about("Promise 8", "or 40 are open");
        String open = Texts.times(40, "(");
        may("(", NO_PATTERN, Texts.times(38, "("), Texts.times(39, "("), Texts.times(39, "( a"), Texts.times(39, "( -"));
        may("(", PATTERN, Texts.times(39, "("));
        mayNot("(", NO_PATTERN, open, Texts.times(40, "( a"), Texts.times(40, "- ("), open + " 1 a", open + " -");
        mayNot("(", PATTERN, open, open + " 1 a");
        told(holding(NO_PATTERN, open), 40, 40, 1);
        // It is those which are open that count, not those which were.
        may("(", NO_PATTERN, open + " 1 ) a", Texts.times(41, "( 1 ) a"));
        mayNot("(", NO_PATTERN, open + " 1 ) a (");
        for (String item : new String[] {"1", "-", "a"}) {
            may(item, NO_PATTERN, open);
        }
    }

    // Promise 9

    private static void closeWhereItMayCome() {
        Due.about("Terms", "CLOSE, if a bracket is open");
        may(")", NO_PATTERN, "( 1", "( 1 a 2", "( - 1", "( a 1", "( a 1 b 2", "( ( 1 )", "( ( 1 a )", "( a ( 1 b )", "1 a ( 2");
        may(")", PATTERN, "( 1", "( 1 a 2", "( - 1", "( ( 1 )");
        Due.about("Terms", "CLOSE may come right behind an operator, too");
        may(")", NO_PATTERN, "( 1 a", "( 1 -", "( - 1 a", "( 1 a 2 b", "( ( 1 ) a", "( ( a 1 ) b", "( a ( 1 b",
                "( a 1 ) b ( 2 c", "( ( 1 a ) b");
        told(holding(NO_PATTERN, "( 1 a )"), 4, 0, 0);
        told(holding(NO_PATTERN, "( ( 1 a )"), 5, 1, 0);
    }

    private static void closeWhereItMayNotCome() {
        Due.about("Promise 9", "CLOSE. IllegalState: likewise.");
        mayNot(")", NO_PATTERN, "", "1", "1 a", "- 1", "( 1 )", "( 1 a )", "( 1 ) a", "( 1 ) a 2");
        mayNot(")", PATTERN, "", "1", "1 a", "( 1 )");
        mayNot(")", NO_PATTERN, "(", "( (", "1 a (", "( 1 a (");
        mayNot(")", PATTERN, "(");
        Due.about("Terms", "(none that is a NEGATION, or begins a RIGHT SECTION)");
        mayNot(")", NO_PATTERN, "( -", "( - -", "( 1 a -", "( a -", "( 1 - -");
        mayNot(")", NO_PATTERN, "( a", "( ( a", "( 1 a ( b");
        Due.about("Terms", "but in no RIGHT SECTION");
        mayNot(")", NO_PATTERN, "( a 1 b", "( a 1 -", "( a 1 b 2 c", "( a ( 1 b ) c", "( a ( b 1 ) c", "( a ( 1 ) c",
                "( ( 1 b ) c ( a 1 b");
    }

    private static void closeBehindTwoHundred() {
        Due.about("Promise 9", "CLOSE. IllegalState: likewise.");
        may(")", NO_PATTERN, Texts.times(197, "-") + " ( 1", Texts.times(196, "-") + " ( 1 a");
        mayNot(")", NO_PATTERN, Texts.times(198, "-") + " ( 1", Texts.times(197, "-") + " ( 1 a", Texts.times(99, "1 a") + " ( 1");
        may(")", PATTERN, "( " + Texts.times(98, "1 a") + " - 1");
        mayNot(")", PATTERN, "( " + Texts.times(99, "1 a") + " 1");
    }

    private static void closeAfterForty() {
        Due.about("Promise 9", "CLOSE.");
        Run x = holding(NO_PATTERN, Texts.times(40, "(") + " 1");
        for (int open = 39; open >= 0; open--) {
            int size = 81 - open;
            Due.is("close()", () -> x.close(), size);
            told(x, size, open, 0);
        }
        Due.badState(x, "close() with none open", () -> x.close());
        Run left = holding(NO_PATTERN, Texts.times(40, "(") + " 1");
        Due.is("40 left sections", () -> Texts.items(left, Texts.times(40, "a )")), 121);
        Run right = holding(NO_PATTERN, Texts.times(40, "( a") + " 1");
        Due.is("40 right sections", () -> Texts.items(right, Texts.times(40, ")")), 121);
        told(right, 121, 0, 0);
    }

    // Patterns

    private static void patternsHaveNoSections() {
        Due.about("Terms", "In a PATTERN there are no sections");
        mayNot("a", PATTERN, "(", "( (", "1 a (");
        mayNot(")", PATTERN, "( 1 a", "( 1 -", "( 1 a 2 b", "( ( 1 a", "( ( 1 ) a");
        may("-", PATTERN, "(", "( (");
    }

    private static void patternsNegateOperands() {
        Due.about("Terms", "behind a NEGATION only an OPERAND may come");
        for (String row : new String[] {"-", "1 a -", "1 - -", "( -"}) {
            mayNot("-", PATTERN, row);
            mayNot("a", PATTERN, row);
            mayNot("(", PATTERN, row);
            mayNot(")", PATTERN, row);
            may("1", PATTERN, row);
        }
        // MINUS of two operands is no negation.
        may("(", PATTERN, "1 -", "- 1 -");
        may("-", PATTERN, "1 -");
    }
}

import java.util.ArrayList;
import java.util.List;
import java.util.Random;

/**
 * Promises 10 and 17 by the words of RIGHT alone: of every small row all trees are made, and those that
 * are RIGHT are looked for. There is one at most; resolve() finds it, and tells a clash if there is none.
 */
public final class RightTreesTest {
    private static final int ROWS = 40000;

    private static final class Node {
        final String text;
        final int kind;
        final int operator;
        final boolean right;

        Node(String text, int kind, int operator, boolean right) {
            this.text = text;
            this.kind = kind;
            this.operator = operator;
            this.right = right;
        }
    }

    private final Random random;
    private final Run x = new Run();
    // Kept here, so that trees by the hundred do not take up the object's calls.
    private final int[] sides = {0, 0, 0, 0, 0};
    private final int[] ranks = {6, 0, 0, 0, 0};
    private final boolean pattern;
    private String[] row;

    private RightTreesTest(long seed) {
        random = new Random(seed);
        pattern = random.nextInt(4) == 0;
    }

    public static void main(String[] args) {
        Due.about("Terms", "There is one RIGHT tree at most.");
        int trees = 0;
        for (int seed = 0; seed < ROWS; seed++) {
            trees += new RightTreesTest(seed).run();
        }
        Due.is("rows with a tree are enough", () -> 1, trees > ROWS / 5 ? 1 : 0);
        Due.end();
    }

    private int run() {
        for (int operator = 1; operator <= 4; operator++) {
            sides[operator] = random.nextInt(3);
            ranks[operator] = 4 + random.nextInt(4);
            x.fixity(0, operator, sides[operator], ranks[operator]);
        }
        row = anyRow();
        String text = String.join(" ", row);
        List<Node> found = new ArrayList<>();
        for (Node tree : group(0, row.length)) {
            if (tree.right) {
                found.add(tree);
            }
        }
        Due.is("how many RIGHT trees but one: " + text, () -> Math.max(0, found.size() - 1), 0);
        x.begin(pattern);
        Texts.items(x, text);
        x.resolve(0);
        Due.text("tree of " + text + (pattern ? " in a pattern" : ""), Texts.tree(x),
                found.isEmpty() ? "none" : found.get(0).text);
        if (found.isEmpty()) {
            // With the row's first operand for a tree, which may be done before the clash.
            Texts.row(x, text.replaceAll("[^0-9]*([0-9]+).*", "$1"));
            x.resolve(0);
            x.begin(pattern);
            Texts.items(x, text);
        }
        Due.is("same of " + text, () -> x.same(0), found.isEmpty() ? 0 : 1);
        return found.size();
    }

    private String[] anyRow() {
        List<String> items = new ArrayList<>();
        addGroup(items, 0);
        return items.toArray(new String[0]);
    }

    private String anyOperator() {
        return "-abcd".charAt(random.nextInt(5)) + "";
    }

    private void addGroup(List<String> items, int depth) {
        int section = depth > 0 && !pattern ? random.nextInt(4) : 0;
        if (section == 1) {
            items.add("abcd".charAt(random.nextInt(4)) + "");
        }
        int operands = 1 + random.nextInt(depth == 0 ? 4 : 3);
        for (int i = 0; i < operands; i++) {
            if (i > 0) {
                items.add(anyOperator());
            }
            boolean negated = random.nextInt(4) == 0;
            if (negated) {
                items.add("-");
            }
            if (depth < 2 && random.nextInt(5) == 0 && !(negated && pattern)) {
                items.add("(");
                addGroup(items, depth + 1);
                items.add(")");
            } else {
                items.add("" + (1 + random.nextInt(9)));
            }
        }
        if (section == 2) {
            items.add(anyOperator());
        }
    }

    private int closeOf(int open) {
        int depth = 0;
        for (int i = open; i < row.length; i++) {
            depth += row[i].equals("(") ? 1 : row[i].equals(")") ? -1 : 0;
            if (depth == 0) {
                return i;
            }
        }
        throw new AssertionError();
    }

    private boolean isOperator(int i) {
        return row[i].equals("-") || Character.isLetter(row[i].charAt(0));
    }

    /** All trees of the group from .. to - 1, RIGHT or not. */
    private List<Node> group(int from, int to) {
        List<Node> trees = new ArrayList<>();
        if (isOperator(from) && !row[from].equals("-")) {
            int operator = Texts.operator(row[from].charAt(0));
            for (Node child : trees(from + 1, to)) {
                trees.add(new Node("[_ " + row[from] + " " + child.text + "]", 4, operator,
                        child.right && fits(child, operator, 1)));
            }
        } else if (isOperator(to - 1)) {
            int operator = Texts.operator(row[to - 1].charAt(0));
            for (Node child : trees(from, to - 1)) {
                trees.add(new Node("[" + child.text + " " + row[to - 1] + " _]", 3, operator,
                        child.right && fits(child, operator, 0)));
            }
        } else {
            trees.addAll(trees(from, to));
        }
        return trees;
    }

    private List<Node> trees(int from, int to) {
        List<Node> trees = new ArrayList<>();
        if (to - from == 1) {
            trees.add(new Node(row[from], 0, -1, true));
            return trees;
        }
        if (row[from].equals("(") && closeOf(from) == to - 1) {
            for (Node inner : group(from + 1, to - 1)) {
                // In brackets of its own it is asked no more whether it fits, just as an operand.
                trees.add(new Node(inner.text, inner.kind == 0 ? 0 : 5, inner.operator, inner.right));
            }
            return trees;
        }
        if (row[from].equals("-")) {
            for (Node child : trees(from + 1, to)) {
                boolean bare = !pattern || to - from == 2;
                trees.add(new Node("[- " + child.text + "]", 2, 0, bare && child.right && fits(child, 0, 1)));
            }
        }
        for (int i = from; i < to; i++) {
            if (row[i].equals("(")) {
                i = closeOf(i);
            } else if (isOperator(i) && i > from && !isOperator(i - 1)) {
                join(trees, trees(from, i), i, trees(i + 1, to));
            }
        }
        return trees;
    }

    private void join(List<Node> trees, List<Node> lefts, int place, List<Node> rights) {
        int operator = Texts.operator(row[place].charAt(0));
        for (Node left : lefts) {
            for (Node right : rights) {
                boolean fit = left.right && right.right && fits(left, operator, 0) && fits(right, operator, 1);
                trees.add(new Node("[" + left.text + " " + row[place] + " " + right.text + "]", 1, operator, fit));
            }
        }
    }

    private boolean fits(Node child, int parent, int hand) {
        if (child.kind != 1 && child.kind != 2) {
            return true;
        }
        int over = ranks[child.operator] - ranks[parent];
        return over > 0 || over == 0 && sides[child.operator] == hand && sides[parent] == hand;
    }
}

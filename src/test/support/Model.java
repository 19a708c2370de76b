import java.util.ArrayList;
import java.util.HashMap;
import java.util.List;
import java.util.Map;

/**
 * The document's words with no thought of speed. Trees are found by splitting a group at its lowest
 * rank and by then asking of every child whether it FITS; clashes by going through the row once more.
 */
final class Model {
    static final int NONE = -1;

    static final class Item {
        final int kind;
        final int operator;
        final long number;
        int node = NONE;

        Item(int kind, int operator, long number) {
            this.kind = kind;
            this.operator = operator;
            this.number = number;
        }
    }

    static final class Node {
        int kind;
        int operator = NONE;
        long number;
        int place;
        Node first;
        Node second;
        boolean ownBrackets;
        int index;

        int height() {
            int below = first == null ? 0 : first.height();
            return 1 + (second == null ? below : Math.max(below, second.height()));
        }
    }

    private final List<Integer> outers = new ArrayList<>();
    private final Map<Integer, int[]> told = new HashMap<>();
    private List<Item> row = new ArrayList<>();
    private boolean pattern;
    private List<Node> tree = new ArrayList<>();
    private int[] clash = {NONE, NONE, NONE};
    private int mostWaiting;
    private List<Item> written = new ArrayList<>();

    Model() {
        outers.add(NONE);
    }

    // Scopes

    private void scopeOrThrow(int scope) {
        if (scope < 0 || scope >= outers.size()) {
            throw new IndexOutOfBoundsException();
        }
    }

    private static void operatorOrThrow(int operator) {
        if (operator < 0 || operator > 40) {
            throw new IndexOutOfBoundsException();
        }
    }

    private static void stateOrThrow(boolean good) {
        if (!good) {
            throw new IllegalStateException();
        }
    }

    private static void argumentOrThrow(int value, int most) {
        if (value < 0 || value > most) {
            throw new IllegalArgumentException();
        }
    }

    int scope(int outer) {
        scopeOrThrow(outer);
        stateOrThrow(outers.size() < 30);
        outers.add(outer);
        return outers.size() - 1;
    }

    void fixity(int scope, int operator, int side, int rank) {
        scopeOrThrow(scope);
        operatorOrThrow(operator);
        stateOrThrow(operator != 0 && !told.containsKey(scope * 100 + operator));
        argumentOrThrow(side, 2);
        argumentOrThrow(rank, 9);
        told.put(scope * 100 + operator, new int[] {side, rank});
    }

    int looked(int scope, int operator, int what) {
        scopeOrThrow(scope);
        operatorOrThrow(operator);
        argumentOrThrow(what, 2);
        if (operator == 0) {
            return new int[] {0, 6, NONE}[what];
        }
        for (int at = scope; at != NONE; at = outers.get(at)) {
            int[] fixity = told.get(at * 100 + operator);
            if (fixity != null) {
                return what == 2 ? at : fixity[what];
            }
        }
        return new int[] {0, 9, NONE}[what];
    }

    // The row

    private int last() {
        return row.isEmpty() ? NONE : row.get(row.size() - 1).kind;
    }

    private boolean due() {
        return last() != 0 && last() != 4;
    }

    /** Where the OPEN of the group that is open stands, NONE in the whole row. */
    private int groupOpen() {
        int closed = 0;
        for (int i = row.size() - 1; i >= 0; i--) {
            int kind = row.get(i).kind;
            if (kind == 4) {
                closed++;
            } else if (kind == 3 && closed-- == 0) {
                return i;
            }
        }
        return NONE;
    }

    private int openSize() {
        int open = 0;
        for (Item item : row) {
            open += item.kind == 3 ? 1 : item.kind == 4 ? -1 : 0;
        }
        return open;
    }

    private int add(boolean may, int kind, int operator, long number) {
        stateOrThrow(may && row.size() < 200);
        row.add(new Item(kind, operator, number));
        return row.size();
    }

    void begin(boolean asPattern) {
        row = new ArrayList<>();
        pattern = asPattern;
    }

    int operand(long number) {
        return add(due(), 0, NONE, number);
    }

    int operator(int operator) {
        operatorOrThrow(operator);
        if (!due()) {
            return add(true, 1, operator, 0);
        }
        if (operator == 0) {
            return add(!(pattern && last() == 2), 2, 0, 0);
        }
        return add(last() == 3 && !pattern, 1, operator, 0);
    }

    int open() {
        return add(due() && openSize() < 40 && !(pattern && last() == 2), 3, NONE, 0);
    }

    int close() {
        int open = groupOpen();
        boolean inRightSection = open != NONE && open + 1 < row.size() && row.get(open + 1).kind == 1;
        boolean leftSection = last() == 1 && !inRightSection && !pattern;
        return add(open != NONE && (!due() || leftSection), 4, NONE, 0);
    }

    // Trees

    private int rank(int scope, Node node) {
        return looked(scope, node.operator, 1);
    }

    private int side(int scope, Node node) {
        return looked(scope, node.operator, 0);
    }

    private boolean fits(int scope, Node child, Node parent) {
        int childRank = rank(scope, child);
        int parentRank = rank(scope, parent);
        if (childRank > parentRank) {
            return true;
        }
        boolean onLeft = child == parent.first && (parent.kind == 1 || parent.kind == 3);
        int side = side(scope, child);
        return childRank == parentRank && side == side(scope, parent) && side == (onLeft ? 0 : 1);
    }

    /** Of a tree, whether it is RIGHT by the document's own words. */
    boolean isRight(int scope, Node node) {
        for (Node child : new Node[] {node.first, node.second}) {
            if (child == null) {
                continue;
            }
            boolean asked = (child.kind == 1 || child.kind == 2) && !child.ownBrackets;
            if (asked && !fits(scope, child, node) || !isRight(scope, child)) {
                return false;
            }
            if (pattern && node.kind == 2 && child.kind != 0) {
                return false;
            }
        }
        return true;
    }

    /** The row's groups as lists of nodes: what is in brackets within is one, or null without a tree. */
    private Node group(int scope, int[] at) {
        List<Node> parts = new ArrayList<>();
        while (at[0] < row.size() && row.get(at[0]).kind != 4) {
            Item item = row.get(at[0]);
            Node part = new Node();
            part.kind = item.kind;
            part.operator = item.operator;
            part.number = item.number;
            part.place = at[0]++;
            if (item.kind == 3) {
                part = group(scope, at);
                at[0]++;
                if (part != null) {
                    part.ownBrackets = true;
                }
            }
            parts.add(part);
        }
        return parts.contains(null) ? null : split(scope, parts);
    }

    private static boolean isPart(Node node) {
        return node.first == null && (node.kind == 1 || node.kind == 2);
    }

    private Node split(int scope, List<Node> parts) {
        Node begin = parts.get(0);
        Node end = parts.get(parts.size() - 1);
        if (isPart(begin) && begin.kind == 1) {
            begin.kind = 4;
            begin.first = split(scope, parts.subList(1, parts.size()));
            return begin.first == null ? null : begin;
        }
        if (isPart(end)) {
            end.kind = 3;
            end.first = split(scope, parts.subList(0, parts.size() - 1));
            return end.first == null ? null : end;
        }
        if (parts.size() == 1) {
            return begin;
        }
        int root = lowest(scope, parts);
        if (root == NONE) {
            return null;
        }
        Node node = parts.get(root);
        Node right = split(scope, parts.subList(root + 1, parts.size()));
        Node left = node.kind == 1 ? split(scope, parts.subList(0, root)) : null;
        if (right == null || node.kind == 1 && left == null) {
            return null;
        }
        node.first = node.kind == 1 ? left : right;
        node.second = node.kind == 1 ? right : null;
        return node;
    }

    private int lowest(int scope, List<Node> parts) {
        int rank = 10;
        for (Node part : parts) {
            rank = isPart(part) ? Math.min(rank, rank(scope, part)) : rank;
        }
        int side = NONE;
        int first = NONE;
        int last = NONE;
        for (int i = 0; i < parts.size(); i++) {
            Node part = parts.get(i);
            if (!isPart(part) || rank(scope, part) != rank) {
                continue;
            }
            if (side != NONE && (side != side(scope, part) || side == 2)) {
                return NONE;
            }
            side = side(scope, part);
            if (part.kind == 1) {
                first = first == NONE ? i : first;
                last = i;
            }
        }
        if (last == NONE) {
            return isPart(parts.get(0)) ? 0 : NONE;
        }
        return side == 1 ? first : last;
    }

    /** The RIGHT tree of the row, null without. */
    private Node rightTree(int scope) {
        Node root = group(scope, new int[] {0});
        return root != null && isRight(scope, root) ? root : null;
    }

    private static void number(Node node, List<Node> nodes) {
        if (node != null) {
            node.index = nodes.size();
            nodes.add(node);
            number(node.first, nodes);
            number(node.second, nodes);
        }
    }

    private void wholeOrThrow() {
        stateOrThrow(!due() && openSize() == 0);
    }

    int resolve(int scope) {
        scopeOrThrow(scope);
        wholeOrThrow();
        int[] most = {0};
        clash = goThrough(scope, most);
        tree = new ArrayList<>();
        Node root = rightTree(scope);
        if ((root == null) != (clash[0] != NONE)) {
            throw new AssertionError("a clash or a RIGHT tree, but not both");
        }
        if (root == null) {
            return NONE;
        }
        mostWaiting = most[0];
        number(root, tree);
        return tree.size();
    }

    /** Kind and places of the first clash. */
    private int[] goThrough(int scope, int[] most) {
        List<List<Integer>> groups = new ArrayList<>();
        groups.add(new ArrayList<>());
        for (int i = 0; i < row.size(); i++) {
            Item item = row.get(i);
            List<Integer> waiting = groups.get(groups.size() - 1);
            int newest = waiting.isEmpty() ? NONE : waiting.get(waiting.size() - 1);
            if (item.kind == 3) {
                groups.add(new ArrayList<>());
            } else if (item.kind == 4) {
                if (row.get(i - 1).kind == 1 && waiting.size() > 1) {
                    return new int[] {3, waiting.get(waiting.size() - 2), i - 1};
                }
                groups.remove(groups.size() - 1);
            } else if (item.kind == 2) {
                if (newest != NONE && looked(scope, row.get(newest).operator, 1) >= 6) {
                    return new int[] {2, newest, i};
                }
                waiting.add(i);
            } else if (item.kind == 1) {
                int kind = comes(scope, waiting, i);
                if (kind != NONE) {
                    return new int[] {kind, waiting.get(waiting.size() - 1), i};
                }
                waiting.add(i);
            }
            int all = 0;
            for (List<Integer> group : groups) {
                all += group.size();
            }
            most[0] = Math.max(most[0], all);
        }
        return new int[] {NONE, NONE, NONE};
    }

    private int comes(int scope, List<Integer> waiting, int i) {
        int rank = looked(scope, row.get(i).operator, 1);
        int side = looked(scope, row.get(i).operator, 0);
        while (!waiting.isEmpty()) {
            int w = waiting.get(waiting.size() - 1);
            int wRank = looked(scope, row.get(w).operator, 1);
            int wSide = looked(scope, row.get(w).operator, 0);
            if (wRank == rank && (wSide != side || side == 2)) {
                return 1;
            }
            if (wRank > rank || wRank == rank && side == 0) {
                if (w > 0 && row.get(w).kind == 1 && row.get(w - 1).kind == 3) {
                    return 3;
                }
                waiting.remove(waiting.size() - 1);
            } else if (pattern && row.get(w).kind == 2) {
                return 4;
            } else {
                return NONE;
            }
        }
        return NONE;
    }

    int clash(int what) {
        argumentOrThrow(what, 2);
        return clash[what];
    }

    private Node nodeOrThrow(int k) {
        if (k < 0 || k >= tree.size()) {
            throw new IndexOutOfBoundsException();
        }
        return tree.get(k);
    }

    int node(int k, int what) {
        Node node = nodeOrThrow(k);
        argumentOrThrow(what, 4);
        int first = node.first == null ? NONE : node.first.index;
        int second = node.second == null ? NONE : node.second.index;
        return new int[] {node.kind, node.operator, first, second, node.place}[what];
    }

    long number(int k) {
        Node node = nodeOrThrow(k);
        if (node.kind != 0) {
            throw new IndexOutOfBoundsException();
        }
        return node.number;
    }

    // Writing

    private void put(int kind, Node node) {
        Item item = new Item(kind, kind == 1 || kind == 2 ? node.operator : NONE, kind == 0 ? node.number : 0);
        item.node = node.index;
        written.add(item);
    }

    private void putAll(int scope, Node node, Node parent) {
        boolean unfit = parent != null && (node.kind == 1 || node.kind == 2) && !fits(scope, node, parent);
        boolean brackets = unfit || node.kind == 3 || node.kind == 4;
        if (brackets) {
            put(3, node);
        }
        if (node.kind == 1 || node.kind == 3) {
            putAll(scope, node.first, node);
        }
        put(node.kind > 2 ? 1 : node.kind, node);
        if (node.kind == 2 || node.kind == 4) {
            putAll(scope, node.first, node);
        }
        if (node.kind == 1) {
            putAll(scope, node.second, node);
        }
        if (brackets) {
            put(4, node);
        }
    }

    int write(int scope) {
        scopeOrThrow(scope);
        stateOrThrow(!tree.isEmpty());
        written = new ArrayList<>();
        putAll(scope, tree.get(0), null);
        return written.size();
    }

    int written(int i, int what) {
        if (i < 0 || i >= written.size()) {
            throw new IndexOutOfBoundsException();
        }
        argumentOrThrow(what, 2);
        Item item = written.get(i);
        return new int[] {item.kind, item.operator, item.node}[what];
    }

    int take() {
        int open = 0;
        int most = 0;
        for (Item item : written) {
            open += item.kind == 3 ? 1 : item.kind == 4 ? -1 : 0;
            most = Math.max(most, open);
        }
        stateOrThrow(!written.isEmpty() && written.size() <= 200 && most <= 40);
        row = new ArrayList<>(written);
        pattern = false;
        return row.size();
    }

    boolean same(int scope) {
        scopeOrThrow(scope);
        wholeOrThrow();
        stateOrThrow(!tree.isEmpty());
        Node root = rightTree(scope);
        return root != null && alike(root, tree.get(0));
    }

    private static boolean alike(Node a, Node b) {
        if (a == null || b == null) {
            return a == b;
        }
        return a.kind == b.kind && a.operator == b.operator && a.number == b.number
                && alike(a.first, b.first) && alike(a.second, b.second);
    }

    int told(int what) {
        argumentOrThrow(what, 6);
        int height = tree.isEmpty() ? 0 : tree.get(0).height();
        return new int[] {row.size(), openSize(), due() ? 1 : 0, outers.size(), tree.size(), mostWaiting, height}[what];
    }
}

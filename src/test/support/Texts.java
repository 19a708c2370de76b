/** Rows and trees as texts: operands are numbers, operator 1 is a, 2 is b and so on, MINUS is -. */
final class Texts {
    private Texts() {
    }

    static Run with(String fixities) {
        Run x = new Run();
        tell(x, 0, fixities);
        return x;
    }

    /** Words like aL6: operator a has side LEFT (L, R or N) and rank 6. */
    static void tell(Run x, int scope, String fixities) {
        for (String word : words(fixities)) {
            x.fixity(scope, operator(word.charAt(0)), "LRN".indexOf(word.charAt(1)), word.charAt(2) - '0');
        }
    }

    static void row(Run x, String items) {
        x.begin(false);
        items(x, items);
    }

    static void pattern(Run x, String items) {
        x.begin(true);
        items(x, items);
    }

    /** What the last of the calls answered; there must be an item. */
    static long items(Run x, String items) {
        int size = FixityTrees.NONE;
        for (String word : words(items)) {
            char c = word.charAt(0);
            if (c == '(') {
                size = x.open();
            } else if (c == ')') {
                size = x.close();
            } else if (Character.isDigit(c)) {
                size = x.operand(Long.parseLong(word));
            } else {
                size = x.operator(operator(c));
            }
        }
        return size;
    }

    /** The items so many times, with blanks between. */
    static String times(int count, String items) {
        return (items + " ").repeat(count).trim();
    }

    static int size(String items) {
        return words(items).length;
    }

    /** The items in quotes, of many only the first and the last. */
    static String quoted(String items) {
        int end = items.length();
        String text = end <= 80 ? items : items.substring(0, 20) + " .. " + items.substring(end - 20);
        return "\"" + text + "\" (" + size(items) + " items)";
    }

    private static String[] words(String text) {
        return text.trim().isEmpty() ? new String[0] : text.trim().split(" +");
    }

    static int operator(char c) {
        return c == '-' ? 0 : c - 'a' + 1;
    }

    private static String name(int operator) {
        return operator == 0 ? "-" : operator <= 26 ? "" + (char) ('a' + operator - 1) : "op" + operator;
    }

    /** Every node but an operand in brackets; a section has _ for what it wants. */
    static String tree(Run run) {
        Reader x = new Reader(run);
        return x.told(4) == 0 ? "none" : tree(x, 0);
    }

    private static String tree(Reader x, int k) {
        String name = name(x.node(k, 1));
        switch (x.node(k, 0)) {
            case 0: return x.answer(t -> t.number(k));
            case 1: return "[" + tree(x, x.node(k, 2)) + " " + name + " " + tree(x, x.node(k, 3)) + "]";
            case 2: return "[" + name + " " + tree(x, x.node(k, 2)) + "]";
            case 3: return "[" + tree(x, x.node(k, 2)) + " " + name + " _]";
            case 4: return "[_ " + name + " " + tree(x, x.node(k, 2)) + "]";
            default: return "?";
        }
    }

    /** What was written latest, operands as #k of their node. */
    static String written(Run run) {
        Reader x = new Reader(run);
        StringBuilder text = new StringBuilder();
        int size = x.writtenSize();
        for (int i = 0; i < size; i++) {
            text.append(i == 0 ? "" : " ");
            switch (x.written(i, 0)) {
                case 0: text.append('#').append(x.written(i, 2)); break;
                case 1: text.append(name(x.written(i, 1))); break;
                case 2: text.append('-'); break;
                case 3: text.append('('); break;
                case 4: text.append(')'); break;
                default: text.append('?');
            }
        }
        return text.toString();
    }
}

/** Rows and trees as texts: operands are numbers, operator 1 is a, 2 is b and so on, MINUS is -. */
final class Texts {
    private Texts() {
    }

    static FixityTrees with(String fixities) {
        FixityTrees x = new FixityTrees();
        tell(x, 0, fixities);
        return x;
    }

    /** Words like aL6: operator a has side LEFT (L, R or N) and rank 6. */
    static void tell(FixityTrees x, int scope, String fixities) {
        for (String word : words(fixities)) {
            x.fixity(scope, operator(word.charAt(0)), "LRN".indexOf(word.charAt(1)), word.charAt(2) - '0');
        }
    }

    static void row(FixityTrees x, String items) {
        x.begin(false);
        items(x, items);
    }

    static void pattern(FixityTrees x, String items) {
        x.begin(true);
        items(x, items);
    }

    static long items(FixityTrees x, String items) {
        int size = x.told(0);
        for (String word : words(items)) {
            char c = word.charAt(0);
            if (c == '(') {
                size = x.open();
            } else if (c == ')') {
                size = x.close();
            } else if (Character.isDigit(c)) {
                size = x.operand(Long.parseLong(word));
            } else {
                size = x.operator(operator(c));
            }
        }
        return size;
    }

    private static String[] words(String text) {
        return text.isEmpty() ? new String[0] : text.split(" ");
    }

    static int operator(char c) {
        return c == '-' ? 0 : c - 'a' + 1;
    }

    private static String name(int operator) {
        return operator == 0 ? "-" : operator <= 26 ? "" + (char) ('a' + operator - 1) : "op" + operator;
    }

    /** Every node but an operand in brackets; a section has _ for what it wants. */
    static String tree(FixityTrees x) {
        return x.told(4) == 0 ? "none" : tree(x, 0);
    }

    private static String tree(FixityTrees x, int k) {
        String name = name(x.node(k, 1));
        switch (x.node(k, 0)) {
            case 0: return "" + x.number(k);
            case 1: return "[" + tree(x, x.node(k, 2)) + " " + name + " " + tree(x, x.node(k, 3)) + "]";
            case 2: return "[" + name + " " + tree(x, x.node(k, 2)) + "]";
            case 3: return "[" + tree(x, x.node(k, 2)) + " " + name + " _]";
            case 4: return "[_ " + name + " " + tree(x, x.node(k, 2)) + "]";
            default: return "?";
        }
    }

    /** What was written latest, operands as #k of their node. */
    static String written(FixityTrees x) {
        StringBuilder text = new StringBuilder();
        for (int i = 0; hasItem(x, i); i++) {
            text.append(i == 0 ? "" : " ");
            switch (x.written(i, 0)) {
                case 0: text.append('#').append(x.written(i, 2)); break;
                case 1: text.append(name(x.written(i, 1))); break;
                case 2: text.append('-'); break;
                case 3: text.append('('); break;
                case 4: text.append(')'); break;
                default: text.append('?');
            }
        }
        return text.toString();
    }

    private static boolean hasItem(FixityTrees x, int i) {
        try {
            x.written(i, 0);
            return true;
        } catch (IndexOutOfBoundsException e) {
            return false;
        }
    }

    /** All that an object tells without a change. */
    static String state(FixityTrees x) {
        StringBuilder text = new StringBuilder();
        for (int what = 0; what < 7; what++) {
            text.append(' ').append(x.told(what));
        }
        for (int what = 0; what < 3; what++) {
            text.append(' ').append(x.clash(what));
        }
        for (int scope = 0; scope < x.told(3); scope++) {
            for (int operator = 0; operator < 41; operator++) {
                for (int what = 0; what < 3; what++) {
                    text.append(' ').append(x.looked(scope, operator, what));
                }
            }
        }
        for (int k = 0; k < x.told(4); k++) {
            text.append(" |");
            for (int what = 0; what < 5; what++) {
                text.append(' ').append(x.node(k, what));
            }
            text.append(' ').append(x.node(k, 0) == 0 ? x.number(k) : 0);
        }
        for (int i = 0; hasItem(x, i); i++) {
            text.append(" /");
            for (int what = 0; what < 3; what++) {
                text.append(' ').append(x.written(i, what));
            }
        }
        return text.toString();
    }
}

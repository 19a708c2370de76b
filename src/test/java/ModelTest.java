import java.util.Random;

/** All promises: long runs of calls, the same on FixityTrees and on the model, which must answer alike. */
public final class ModelTest {
    private static final int CALLS = 512;
    private static final int RUNS = 6000;

    private interface Call {
        long run();
    }

    private final Random random;
    private final int style;
    private final FixityTrees x = new FixityTrees();
    private final Model model = new Model();
    private final StringBuilder said = new StringBuilder();
    private int calls = 0;
    private int open = 0;
    private boolean due = true;
    private boolean alike = true;

    private static int trees = 0;
    private static int clashes = 0;
    private static int taken = 0;
    private static int sames = 0;

    private ModelTest(long seed) {
        random = new Random(seed);
        style = (int) (seed % 3);
    }

    public static void main(String[] args) {
        int wrong = 0;
        for (int seed = 0; seed < RUNS; seed++) {
            if (!new ModelTest(seed).run()) {
                wrong++;
            }
        }
        System.out.println(RUNS + " runs: " + trees + " trees, " + clashes + " clashes, " + taken + " taken, "
                + sames + " the same; " + wrong + " runs are not as due");
        // Runs that never come to these would test nothing.
        if (wrong != 0 || trees < RUNS || clashes < RUNS || taken < RUNS || sames < RUNS) {
            System.exit(1);
        }
    }

    private boolean run() {
        setUp();
        while (alike && calls < CALLS) {
            step();
        }
        return alike;
    }

    private static String answer(Call call) {
        try {
            return "" + call.run();
        } catch (RuntimeException e) {
            return e.getClass().getName();
        }
    }

    private long both(String text, Call ours, Call models) {
        calls++;
        said.append(' ').append(text);
        String got = answer(ours);
        String want = answer(models);
        if (alike && !got.equals(want)) {
            alike = false;
            System.out.println(said + " answered " + got + ", due is " + want);
        }
        return got.startsWith("java") ? Long.MIN_VALUE : Long.parseLong(got);
    }

    private int any(int bound) {
        return random.nextInt(bound);
    }

    /** Mostly a scope that is there. */
    private int anyScope() {
        return any(30) == 0 ? any(34) - 2 : any(model.told(3));
    }

    private int anyOperator() {
        return any(60) == 0 ? any(50) - 5 : any(8) == 0 ? 0 : 1 + any(12);
    }

    // Styles: 0 all at random; 1 each rank has one side, so that rows seldom clash; 2 likewise, ranks below 6.
    private void fixity(int scope, int operator) {
        int rank = style == 2 ? any(6) : any(10);
        int side = style == 0 ? any(3) : rank == 6 || rank % 2 == 0 ? 0 : 1;
        if (any(60) == 0) {
            rank = any(14) - 2;
            side = any(5) - 1;
        }
        fixity(scope, operator, side, rank);
    }

    private void fixity(int scope, int operator, int side, int rank) {
        both("fixity(" + scope + "," + operator + "," + side + "," + rank + ")", () -> {
            x.fixity(scope, operator, side, rank);
            return 0;
        }, () -> {
            model.fixity(scope, operator, side, rank);
            return 0;
        });
    }

    private void setUp() {
        for (int operator = 1; operator <= 12; operator++) {
            fixity(0, operator);
        }
        int scopes = any(4);
        for (int i = 0; i < scopes; i++) {
            newScope();
            for (int k = 0; k < 6; k++) {
                fixity(i + 1, 1 + any(12));
            }
        }
    }

    private void newScope() {
        int outer = anyScope();
        both("scope(" + outer + ")", () -> x.scope(outer), () -> model.scope(outer));
    }

    private void step() {
        switch (any(16)) {
            case 0: newScope(); fixity(anyScope(), anyOperator()); break;
            case 1: look(); break;
            case 2: stray(); break;
            default: wholeRow(); break;
        }
    }

    private void look() {
        int scope = anyScope();
        int operator = anyOperator();
        int what = any(5) - 1;
        both("looked(" + scope + "," + operator + "," + what + ")",
                () -> x.looked(scope, operator, what), () -> model.looked(scope, operator, what));
    }

    /** Calls at places where they are mostly refused. */
    private void stray() {
        for (int i = 0; i < 6; i++) {
            item(any(4));
        }
        resolve();
        same();
    }

    private void item(int kind) {
        switch (kind) {
            case 0:
                long number = any(4) == 0 ? random.nextLong() : any(5);
                both("operand(" + number + ")", () -> x.operand(number), () -> model.operand(number));
                break;
            case 1:
                int operator = anyOperator();
                both("operator(" + operator + ")", () -> x.operator(operator), () -> model.operator(operator));
                break;
            case 2: both("open()", () -> x.open(), () -> model.open()); break;
            default: both("close()", () -> x.close(), () -> model.close()); break;
        }
        due = model.told(2) == 1;
        open = model.told(1);
    }

    private void begin(boolean pattern) {
        both("begin(" + pattern + ")", () -> {
            x.begin(pattern);
            return 0;
        }, () -> {
            model.begin(pattern);
            return 0;
        });
        due = true;
        open = 0;
    }

    private void wholeRow() {
        if (any(5) != 0) {
            begin(any(4) == 0);
        }
        int length = any(12) == 0 ? 150 + any(80) : any(3) == 0 ? any(60) : any(14);
        int nesting = any(3) == 0 ? 60 : 10;
        for (int i = 0; i < length; i++) {
            nextItem(nesting);
        }
        for (int i = 0; i < 60 && (due || open > 0); i++) {
            item(due && any(3) != 0 ? 0 : 3);
        }
        resolve();
        read();
        for (int i = any(4); i > 0; i--) {
            writeAndRead();
        }
    }

    private void nextItem(int nesting) {
        int roll = any(100);
        if (roll == 0) {
            item(any(4));
        } else if (due) {
            item(roll < nesting ? 2 : roll < nesting + 8 ? 1 : roll > 96 ? 3 : 0);
        } else {
            item(open > 0 && roll < 25 ? 3 : 1);
        }
    }

    private void resolve() {
        int scope = anyScope();
        long nodes = both("resolve(" + scope + ")", () -> x.resolve(scope), () -> model.resolve(scope));
        if (nodes > 1) {
            trees++;
        } else if (nodes == Model.NONE) {
            clashes++;
        }
    }

    private void same() {
        int scope = anyScope();
        long same = both("same(" + scope + ")", () -> x.same(scope) ? 1 : 0, () -> model.same(scope) ? 1 : 0);
        sames += same == 1 ? 1 : 0;
    }

    // What only reads is left out of the count of calls: it could not spoil what comes behind.
    private void read() {
        int before = calls;
        for (int what = -1; what < 8; what++) {
            int w = what;
            both("told(" + w + ")", () -> x.told(w), () -> model.told(w));
            both("clash(" + w + ")", () -> x.clash(w), () -> model.clash(w));
        }
        for (int k = -1; k <= model.told(4); k++) {
            int node = k;
            for (int what = -1; what < 6; what++) {
                int w = what;
                both("node(" + node + "," + w + ")", () -> x.node(node, w), () -> model.node(node, w));
            }
            both("number(" + node + ")", () -> x.number(node), () -> model.number(node));
        }
        calls = before;
    }

    private void writeAndRead() {
        int scope = anyScope();
        long size = both("write(" + scope + ")", () -> x.write(scope), () -> model.write(scope));
        int before = calls;
        for (int i = -1; i <= size; i++) {
            int item = i;
            for (int what = -1; what < 4; what++) {
                int w = what;
                both("written(" + item + "," + w + ")", () -> x.written(item, w), () -> model.written(item, w));
            }
        }
        calls = before;
        same();
        if (any(2) == 0) {
            long items = both("take()", () -> x.take(), () -> model.take());
            taken += items > 1 ? 1 : 0;
            due = model.told(2) == 1;
            open = model.told(1);
            read();
            same();
        }
    }
}

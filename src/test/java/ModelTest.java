import java.util.Random;

/**
 * All promises: runs of up to 512 calls, the same on FixityTrees and on the model, which must answer
 * alike; then all that can be read is read, on new objects after the same calls.
 */
public final class ModelTest {
    private static final int RUNS = 16000;
    // A run that is to be read in full leaves calls for that.
    private static final int MOST_BEFORE_READING = 400;

    private interface Call {
        long on(Model model);
    }

    private final Random random;
    private final int style;
    private final int most;
    private final Run x = new Run();
    private final Model model = new Model();
    private final StringBuilder said = new StringBuilder();
    private int open = 0;
    private boolean due = true;
    private boolean alike = true;

    private static int trees = 0;
    private static int clashes = 0;
    private static int taken = 0;
    private static int sames = 0;

    private ModelTest(long seed) {
        random = new Random(seed);
        style = (int) (seed % 3);
        most = any(4) == 0 ? Run.MOST_CALLS : 100 + any(MOST_BEFORE_READING - 100);
    }

    public static void main(String[] args) {
        int wrong = 0;
        for (int seed = 0; seed < RUNS; seed++) {
            if (!new ModelTest(seed).run()) {
                wrong++;
            }
        }
        System.out.println(RUNS + " runs: " + trees + " trees, " + clashes + " clashes, " + taken + " taken, "
                + sames + " the same; " + wrong + " runs are not as due");
        // Runs that never come to these would test nothing.
        if (wrong != 0 || trees < RUNS || clashes < RUNS / 2 || taken < RUNS || sames < RUNS) {
            System.exit(1);
        }
    }

    private boolean run() {
        setUp();
        while (goesOn()) {
            step();
        }
        if (x.made() <= MOST_BEFORE_READING) {
            readAll();
        }
        return alike;
    }

    private boolean goesOn() {
        return alike && x.made() < most;
    }

    private String due(Call models) {
        try {
            return "" + models.on(model);
        } catch (RuntimeException e) {
            return e.getClass().getName();
        }
    }

    /** The answer that both gave, and the least number of all for what was thrown. */
    private long both(String text, Run.Call ours, Call models) {
        if (!goesOn()) {
            return Long.MIN_VALUE;
        }
        said.append(' ').append(text);
        String got = x.answer(ours);
        compare("", got, due(models));
        return got.startsWith("java") ? Long.MIN_VALUE : Long.parseLong(got);
    }

    private void compare(String read, String got, String want) {
        if (alike && !got.equals(want)) {
            alike = false;
            System.out.println("All promises:" + said + read + " answered " + got + ", due is " + want);
        }
    }

    private int any(int bound) {
        return random.nextInt(bound);
    }

    /** Mostly a scope that is there. */
    private int anyScope() {
        return any(30) == 0 ? any(34) - 2 : any(model.told(3));
    }

    private int anyOperator() {
        return any(60) == 0 ? any(50) - 5 : any(8) == 0 ? 0 : 1 + any(12);
    }

    // Styles: 0 all at random; 1 each rank has one side, so that rows seldom clash; 2 likewise, ranks below 6.
    private void fixity(int scope, int operator) {
        int rank = style == 2 ? any(6) : any(10);
        int side = style == 0 ? any(3) : rank == 6 || rank % 2 == 0 ? 0 : 1;
        if (any(60) == 0) {
            rank = any(14) - 2;
            side = any(5) - 1;
        }
        fixity(scope, operator, side, rank);
    }

    private void fixity(int scope, int operator, int side, int rank) {
        both("fixity(" + scope + "," + operator + "," + side + "," + rank + ")", t -> {
            t.fixity(scope, operator, side, rank);
            return 0;
        }, m -> {
            m.fixity(scope, operator, side, rank);
            return 0;
        });
    }

    private void setUp() {
        for (int operator = 1; operator <= 12; operator++) {
            fixity(0, operator);
        }
        int scopes = any(4);
        for (int i = 0; i < scopes; i++) {
            newScope();
            for (int k = 0; k < 6; k++) {
                fixity(i + 1, 1 + any(12));
            }
        }
    }

    private void newScope() {
        int outer = anyScope();
        both("scope(" + outer + ")", t -> t.scope(outer), m -> m.scope(outer));
    }

    private void step() {
        switch (any(16)) {
            case 0: newScope(); fixity(anyScope(), anyOperator()); break;
            case 1: look(); break;
            case 2: stray(); break;
            default: wholeRow(); break;
        }
    }

    private void look() {
        int scope = anyScope();
        int operator = anyOperator();
        int what = any(5) - 1;
        both("looked(" + scope + "," + operator + "," + what + ")",
                t -> t.looked(scope, operator, what), m -> m.looked(scope, operator, what));
    }

    /** Calls at places where they are mostly refused. */
    private void stray() {
        for (int i = 0; i < 6; i++) {
            item(any(4));
        }
        resolve();
        same();
    }

    private void item(int kind) {
        switch (kind) {
            case 0:
                long number = any(4) == 0 ? random.nextLong() : any(5);
                both("operand(" + number + ")", t -> t.operand(number), m -> m.operand(number));
                break;
            case 1:
                int operator = anyOperator();
                both("operator(" + operator + ")", t -> t.operator(operator), m -> m.operator(operator));
                break;
            case 2: both("open()", t -> t.open(), m -> m.open()); break;
            default: both("close()", t -> t.close(), m -> m.close()); break;
        }
        due = model.told(2) == 1;
        open = model.told(1);
    }

    private void begin(boolean pattern) {
        both("begin(" + pattern + ")", t -> {
            t.begin(pattern);
            return 0;
        }, m -> {
            m.begin(pattern);
            return 0;
        });
        due = true;
        open = 0;
    }

    private void wholeRow() {
        if (any(5) != 0) {
            begin(any(4) == 0);
        }
        int length = any(12) == 0 ? 150 + any(80) : any(4) == 0 ? any(60) : any(14);
        int nesting = any(3) == 0 ? 60 : 10;
        for (int i = 0; i < length; i++) {
            nextItem(nesting);
        }
        for (int i = 0; i < 60 && (due || open > 0); i++) {
            item(due && any(3) != 0 ? 0 : 3);
        }
        resolve();
        readSome();
        for (int i = any(4); i > 0; i--) {
            writeAndTake();
        }
    }

    private void nextItem(int nesting) {
        int roll = any(100);
        if (roll == 0) {
            item(any(4));
        } else if (due) {
            item(roll < nesting ? 2 : roll < nesting + 8 ? 1 : roll > 96 ? 3 : 0);
        } else {
            item(open > 0 && roll < 25 ? 3 : 1);
        }
    }

    private void resolve() {
        int scope = anyScope();
        long nodes = both("resolve(" + scope + ")", t -> t.resolve(scope), m -> m.resolve(scope));
        if (nodes > 1) {
            trees++;
        } else if (nodes == Model.NONE) {
            clashes++;
        }
    }

    private void same() {
        int scope = anyScope();
        long same = both("same(" + scope + ")", t -> t.same(scope) ? 1 : 0, m -> m.same(scope) ? 1 : 0);
        sames += same == 1 ? 1 : 0;
    }

    private void writeAndTake() {
        int scope = anyScope();
        both("write(" + scope + ")", t -> t.write(scope), m -> m.write(scope));
        readSome();
        same();
        if (any(2) == 0) {
            long items = both("take()", t -> t.take(), m -> m.take());
            taken += items > 1 ? 1 : 0;
            due = model.told(2) == 1;
            open = model.told(1);
            same();
        }
    }

    // Reading in between shows that it changes nothing.
    private void readSome() {
        for (int i = any(4); i > 0; i--) {
            int told = any(9) - 1;
            both("told(" + told + ")", t -> t.told(told), m -> m.told(told));
            int clash = any(5) - 1;
            both("clash(" + clash + ")", t -> t.clash(clash), m -> m.clash(clash));
            int k = any(model.told(4) + 2) - 1;
            int what = any(7) - 1;
            both("node(" + k + "," + what + ")", t -> t.node(k, what), m -> m.node(k, what));
            both("number(" + k + ")", t -> t.number(k), m -> m.number(k));
            int item = any(2 * k + 4) - 1;
            int of = any(5) - 1;
            both("written(" + item + "," + of + ")", t -> t.written(item, of), m -> m.written(item, of));
        }
    }

    private void readAll() {
        Reader reader = new Reader(x);
        for (int what = -1; what < 8; what++) {
            int w = what;
            compare(" told(" + w + ")", reader.answer(t -> t.told(w)), due(m -> m.told(w)));
            compare(" clash(" + w + ")", reader.answer(t -> t.clash(w)), due(m -> m.clash(w)));
        }
        for (int k = -1; k <= model.told(4); k++) {
            int node = k;
            for (int what = -1; what < 6; what++) {
                int w = what;
                compare(" node(" + k + "," + w + ")", reader.answer(t -> t.node(node, w)), due(m -> m.node(node, w)));
            }
            compare(" number(" + k + ")", reader.answer(t -> t.number(node)), due(m -> m.number(node)));
        }
        int size = reader.writtenSize();
        for (int i = -1; i <= size; i++) {
            int item = i;
            for (int what = -1; what < 4; what++) {
                int w = what;
                compare(" written(" + i + "," + w + ")", reader.answer(t -> t.written(item, w)), due(m -> m.written(item, w)));
            }
        }
    }
}

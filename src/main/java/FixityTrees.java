/**
 * Trees of rows of operands and operators, by the sides and ranks that scopes tell of the operators.
 *
 * All arrays are made with the object and used again by every call, so a call makes nothing but the
 * exception that it may throw.
 */
public final class FixityTrees {
    public static final int NONE = -1;

    private static final int OPERATORS = 41;
    private static final int MINUS = 0;
    private static final int MINUS_RANK = 6;

    private static final int LEFT = 0;
    private static final int RIGHT = 1;
    private static final int NO_SIDE = 2;
    private static final int SIDES = 3;

    private static final int RANKS = 10;
    private static final int RANK_IF_UNTOLD = 9;

    private static final int MOST_SCOPES = 30;
    private static final int MOST_ITEMS = 200;
    private static final int MOST_OPEN = 40;
    // A node has one item of its own and one pair of brackets at most.
    private static final int MOST_WRITTEN = 3 * MOST_ITEMS;

    // Items and nodes share their first three kinds.
    private static final int OPERAND = 0;
    private static final int OPERATOR = 1;
    private static final int NEGATION = 2;
    private static final int OPEN = 3;
    private static final int CLOSE = 4;
    private static final int LEFT_SECTION = 3;
    private static final int RIGHT_SECTION = 4;

    private static final int CLASH_OF_SIDES = 1;
    private static final int CLASH_OF_NEGATION = 2;
    private static final int CLASH_IN_SECTION = 3;
    private static final int CLASH_IN_PATTERN = 4;

    private final Scopes scopes;
    private final Fixities fixities;
    private final Row row;
    private final Resolver resolver;
    private final Tree tree;
    private final Tree trial;
    private final Written latest;
    private int clashKind;
    private int clashWaiting;
    private int clashOther;
    private int mostWaiting;

    public FixityTrees() {
        scopes = new Scopes();
        fixities = new Fixities();
        row = new Row();
        resolver = new Resolver(row, fixities);
        tree = new Tree();
        trial = new Tree();
        latest = new Written(tree, fixities);
        clashKind = NONE;
        clashWaiting = NONE;
        clashOther = NONE;
    }

    public int scope(int outer) throws IndexOutOfBoundsException, IllegalStateException {
        requireScope(outer);
        if (scopes.isFull()) {
            throw new IllegalStateException("there are as many scopes as there may be");
        }
        return scopes.add(outer);
    }

    public void fixity(int scope, int operator, int side, int rank)
            throws IndexOutOfBoundsException, IllegalStateException, IllegalArgumentException {
        requireScope(scope);
        requireOperator(operator);
        if (operator == MINUS) {
            throw new IllegalStateException("the side and rank of minus are fixed");
        }
        if (scopes.tells(scope, operator)) {
            throw new IllegalStateException("the scope tells this operator already");
        }
        if (side < 0 || side >= SIDES) {
            throw new IllegalArgumentException("no such side");
        }
        if (rank < 0 || rank >= RANKS) {
            throw new IllegalArgumentException("no such rank");
        }
        scopes.tell(scope, operator, side, rank);
    }

    public int looked(int scope, int operator, int what)
            throws IndexOutOfBoundsException, IllegalArgumentException {
        requireScope(scope);
        requireOperator(operator);
        switch (what) {
            case 0: return scopes.sideOf(scope, operator);
            case 1: return scopes.rankOf(scope, operator);
            case 2: return scopes.tellerOf(scope, operator);
            default: throw new IllegalArgumentException("what is 0 to 2");
        }
    }

    public void begin(boolean pattern) {
        row.clear(pattern);
    }

    public int operand(long number) throws IllegalStateException {
        if (!row.takesOperand()) {
            throw new IllegalStateException("no operand may come here");
        }
        row.add(OPERAND, NONE, number);
        return row.size();
    }

    public int operator(int operator) throws IndexOutOfBoundsException, IllegalStateException {
        requireOperator(operator);
        int kind = row.kindIfNext(operator);
        if (kind == NONE) {
            throw new IllegalStateException("this operator may not come here");
        }
        row.add(kind, operator, 0L);
        return row.size();
    }

    public int open() throws IllegalStateException {
        if (!row.takesOpen()) {
            throw new IllegalStateException("no bracket may be opened here");
        }
        row.add(OPEN, NONE, 0L);
        return row.size();
    }

    public int close() throws IllegalStateException {
        if (!row.takesClose()) {
            throw new IllegalStateException("no bracket may be closed here");
        }
        row.add(CLOSE, NONE, 0L);
        return row.size();
    }

    public int resolve(int scope) throws IndexOutOfBoundsException, IllegalStateException {
        requireScope(scope);
        requireWholeRow();
        fixities.look(scopes, scope);
        resolver.run();
        clashKind = resolver.clashKind();
        clashWaiting = resolver.clashWaiting();
        clashOther = resolver.clashOther();
        if (clashKind != NONE) {
            tree.clear();
            return NONE;
        }
        resolver.numberInto(tree);
        mostWaiting = resolver.mostWaiting();
        return tree.size();
    }

    public int clash(int what) throws IllegalArgumentException {
        switch (what) {
            case 0: return clashKind;
            case 1: return clashWaiting;
            case 2: return clashOther;
            default: throw new IllegalArgumentException("what is 0 to 2");
        }
    }

    public int node(int k, int what) throws IndexOutOfBoundsException, IllegalArgumentException {
        if (!tree.has(k)) {
            throw new IndexOutOfBoundsException("no such node");
        }
        switch (what) {
            case 0: return tree.kindAt(k);
            case 1: return tree.operatorAt(k);
            case 2: return tree.firstAt(k);
            case 3: return tree.secondAt(k);
            case 4: return tree.placeAt(k);
            default: throw new IllegalArgumentException("what is 0 to 4");
        }
    }

    public long number(int k) throws IndexOutOfBoundsException {
        if (tree.kindAt(k) != OPERAND) {
            throw new IndexOutOfBoundsException("no such operand");
        }
        return tree.numberAt(k);
    }

    public int write(int scope) throws IndexOutOfBoundsException, IllegalStateException {
        requireScope(scope);
        requireTree();
        fixities.look(scopes, scope);
        latest.fill();
        return latest.size();
    }

    public int written(int i, int what) throws IndexOutOfBoundsException, IllegalArgumentException {
        if (!latest.has(i)) {
            throw new IndexOutOfBoundsException("no such item");
        }
        switch (what) {
            case 0: return latest.kindAt(i);
            case 1: return latest.operatorAt(i);
            case 2: return latest.nodeAt(i);
            default: throw new IllegalArgumentException("what is 0 to 2");
        }
    }

    public int take() throws IllegalStateException {
        if (latest.size() == 0) {
            throw new IllegalStateException("nothing was written");
        }
        if (latest.size() > MOST_ITEMS || latest.mostOpen() > MOST_OPEN) {
            throw new IllegalStateException("what was written is too much for a row");
        }
        row.clear(false);
        for (int i = 0; i < latest.size(); i++) {
            row.add(latest.kindAt(i), latest.operatorAt(i), latest.numberAt(i));
        }
        return row.size();
    }

    public boolean same(int scope) throws IndexOutOfBoundsException, IllegalStateException {
        requireScope(scope);
        requireWholeRow();
        requireTree();
        fixities.look(scopes, scope);
        resolver.run();
        if (resolver.clashKind() != NONE) {
            return false;
        }
        resolver.numberInto(trial);
        return trial.isLike(tree);
    }

    public int told(int what) throws IllegalArgumentException {
        switch (what) {
            case 0: return row.size();
            case 1: return row.openSize();
            case 2: return row.operandIsDue() ? 1 : 0;
            case 3: return scopes.size();
            case 4: return tree.size();
            case 5: return mostWaiting;
            case 6: return tree.height();
            default: throw new IllegalArgumentException("what is 0 to 6");
        }
    }

    private void requireScope(int scope) {
        if (!scopes.has(scope)) {
            throw new IndexOutOfBoundsException("no such scope");
        }
    }

    private void requireOperator(int operator) {
        if (!isOperator(operator)) {
            throw new IndexOutOfBoundsException("no such operator");
        }
    }

    private void requireWholeRow() {
        if (row.operandIsDue() || row.openSize() > 0) {
            throw new IllegalStateException("the row is not at an end");
        }
    }

    private void requireTree() {
        if (tree.size() == 0) {
            throw new IllegalStateException("there is no tree");
        }
    }

    private static boolean isOperator(int operator) {
        return operator >= 0 && operator < OPERATORS;
    }

    /** What the scopes tell of the operators. */
    private static final class Scopes {
        // A new array holds zeros, so that zero stands for what is not told.
        private static final int UNTOLD = 0;

        private final int[] outers = new int[MOST_SCOPES];
        private final int[] codes = new int[MOST_SCOPES * OPERATORS];
        private int size;

        Scopes() {
            outers[0] = NONE;
            size = 1;
        }

        int size() {
            return size;
        }

        boolean isFull() {
            return size >= MOST_SCOPES;
        }

        boolean has(int scope) {
            return scope >= 0 && scope < size && scope < MOST_SCOPES;
        }

        int add(int outer) {
            if (isFull()) {
                return NONE;
            }
            int scope = size;
            outers[scope] = outer;
            size++;
            return scope;
        }

        void tell(int scope, int operator, int side, int rank) {
            if (has(scope) && isOperator(operator)) {
                codes[scope * OPERATORS + operator] = side * RANKS + rank + 1;
            }
        }

        boolean tells(int scope, int operator) {
            return codeAt(scope, operator) != UNTOLD;
        }

        int tellerOf(int scope, int operator) {
            int at = scope;
            for (int step = 0; step < MOST_SCOPES && has(at); step++) {
                if (codeAt(at, operator) != UNTOLD) {
                    return at;
                }
                at = outers[at];
            }
            return NONE;
        }

        int sideOf(int scope, int operator) {
            int code = codeAt(tellerOf(scope, operator), operator);
            return code == UNTOLD ? LEFT : (code - 1) / RANKS;
        }

        int rankOf(int scope, int operator) {
            if (operator == MINUS) {
                return MINUS_RANK;
            }
            int code = codeAt(tellerOf(scope, operator), operator);
            return code == UNTOLD ? RANK_IF_UNTOLD : (code - 1) % RANKS;
        }

        private int codeAt(int scope, int operator) {
            return has(scope) && isOperator(operator) ? codes[scope * OPERATORS + operator] : UNTOLD;
        }
    }

    /** The sides and ranks of all operators in the scope that was looked at. */
    private static final class Fixities {
        private final int[] sides = new int[OPERATORS];
        private final int[] ranks = new int[OPERATORS];

        void look(Scopes scopes, int scope) {
            for (int operator = 0; operator < OPERATORS; operator++) {
                sides[operator] = scopes.sideOf(scope, operator);
                ranks[operator] = scopes.rankOf(scope, operator);
            }
        }

        int sideOf(int operator) {
            return isOperator(operator) ? sides[operator] : NO_SIDE;
        }

        int rankOf(int operator) {
            return isOperator(operator) ? ranks[operator] : RANK_IF_UNTOLD;
        }
    }

    /** The row of items; it knows what may come next. */
    private static final class Row {
        private final int[] kinds = new int[MOST_ITEMS];
        private final int[] nodeKinds = new int[MOST_ITEMS];
        private final int[] operators = new int[MOST_ITEMS];
        private final long[] numbers = new long[MOST_ITEMS];
        // Of each bracket that is open: whether its group is a right section.
        private final boolean[] rightSections = new boolean[MOST_OPEN];
        private int size;
        private int openSize;
        private boolean pattern;

        void clear(boolean asPattern) {
            size = 0;
            openSize = 0;
            pattern = asPattern;
        }

        int size() {
            return size;
        }

        int openSize() {
            return openSize;
        }

        boolean isPattern() {
            return pattern;
        }

        int kindAt(int place) {
            return has(place) ? kinds[place] : NONE;
        }

        /** The kind of the node that the item at the place is of; NONE of brackets. */
        int nodeKindAt(int place) {
            return has(place) ? nodeKinds[place] : NONE;
        }

        int operatorAt(int place) {
            return has(place) ? operators[place] : NONE;
        }

        long numberAt(int place) {
            return has(place) ? numbers[place] : 0L;
        }

        boolean operandIsDue() {
            int last = lastKind();
            return last != OPERAND && last != CLOSE;
        }

        boolean takesOperand() {
            return !isFull() && operandIsDue();
        }

        boolean takesOpen() {
            return !isFull() && operandIsDue() && openSize < MOST_OPEN && !wantsBareOperand();
        }

        boolean takesClose() {
            return !isFull() && openSize > 0 && (!operandIsDue() || mayEndLeftSection());
        }

        /** The kind that the operator has if it comes next, or NONE if it may not come. */
        int kindIfNext(int operator) {
            if (isFull()) {
                return NONE;
            }
            if (!operandIsDue()) {
                return OPERATOR;
            }
            if (operator == MINUS) {
                return wantsBareOperand() ? NONE : NEGATION;
            }
            return lastKind() == OPEN && !pattern ? OPERATOR : NONE;
        }

        void add(int kind, int operator, long number) {
            if (isFull()) {
                return;
            }
            kinds[size] = kind;
            operators[size] = operator;
            numbers[size] = number;
            nodeKinds[size] = kind == OPEN || kind == CLOSE ? NONE : kind;
            if (kind == OPEN) {
                openGroup();
            } else if (kind == CLOSE) {
                closeGroup();
            } else if (kind == OPERATOR && lastKind() == OPEN) {
                beginRightSection();
            }
            size++;
        }

        private void openGroup() {
            if (openSize < MOST_OPEN) {
                rightSections[openSize] = false;
                openSize++;
            }
        }

        private void closeGroup() {
            if (openSize > 0) {
                openSize--;
            }
            if (lastKind() == OPERATOR && size > 0) {
                nodeKinds[size - 1] = LEFT_SECTION;
            }
        }

        private void beginRightSection() {
            nodeKinds[size] = RIGHT_SECTION;
            if (openSize > 0) {
                rightSections[openSize - 1] = true;
            }
        }

        private boolean wantsBareOperand() {
            return pattern && lastKind() == NEGATION;
        }

        private boolean mayEndLeftSection() {
            return !pattern && lastKind() == OPERATOR && openSize > 0 && !rightSections[openSize - 1];
        }

        private int lastKind() {
            return kindAt(size - 1);
        }

        private boolean isFull() {
            return size >= MOST_ITEMS;
        }

        private boolean has(int place) {
            return place >= 0 && place < size && place < MOST_ITEMS;
        }
    }

    /** A stack of places or counts: none has more than the row has items. */
    private static final class IntStack {
        private final int[] values = new int[MOST_ITEMS];
        private int size;

        void clear() {
            size = 0;
        }

        int size() {
            return size;
        }

        void push(int value) {
            if (size < MOST_ITEMS) {
                values[size] = value;
                size++;
            }
        }

        int top() {
            return size > 0 ? values[size - 1] : NONE;
        }

        int pop() {
            if (size <= 0) {
                return NONE;
            }
            size--;
            return values[size];
        }
    }

    /** Nodes, each before all of its first child, and that before all of its second; none is no tree. */
    private static final class Tree {
        private final int[] kinds = new int[MOST_ITEMS];
        private final int[] operators = new int[MOST_ITEMS];
        private final int[] firsts = new int[MOST_ITEMS];
        private final int[] seconds = new int[MOST_ITEMS];
        private final int[] places = new int[MOST_ITEMS];
        private final long[] numbers = new long[MOST_ITEMS];
        private int size;
        private int height;

        void clear() {
            size = 0;
            height = 0;
        }

        void add(int kind, int operator, long number, int place) {
            if (size < MOST_ITEMS) {
                kinds[size] = kind;
                operators[size] = operator;
                numbers[size] = number;
                places[size] = place;
                firsts[size] = NONE;
                seconds[size] = NONE;
                size++;
            }
        }

        void join(int k, int first, int second) {
            if (has(k)) {
                firsts[k] = first;
                seconds[k] = second;
            }
        }

        void setHeight(int nodes) {
            height = nodes;
        }

        int size() {
            return size;
        }

        int height() {
            return height;
        }

        boolean has(int k) {
            return k >= 0 && k < size && k < MOST_ITEMS;
        }

        int kindAt(int k) {
            return has(k) ? kinds[k] : NONE;
        }

        int operatorAt(int k) {
            return has(k) ? operators[k] : NONE;
        }

        int firstAt(int k) {
            return has(k) ? firsts[k] : NONE;
        }

        int secondAt(int k) {
            return has(k) ? seconds[k] : NONE;
        }

        int placeAt(int k) {
            return has(k) ? places[k] : NONE;
        }

        long numberAt(int k) {
            return has(k) ? numbers[k] : 0L;
        }

        /** A node's kind tells how many children it has, so that kinds in this order tell the shape. */
        boolean isLike(Tree other) {
            if (size != other.size()) {
                return false;
            }
            for (int k = 0; k < size; k++) {
                if (kindAt(k) != other.kindAt(k) || operatorAt(k) != other.operatorAt(k)
                        || numberAt(k) != other.numberAt(k)) {
                    return false;
                }
            }
            return true;
        }
    }

    /** Resolves the row; until its nodes are numbered, a node goes by its place in the row. */
    private static final class Resolver {
        // Beside the kinds of clashes: what becomes of the newest one that waits.
        private static final int IS_DONE = 0;
        private static final int WAITS_ON = -1;

        private final Row row;
        private final Fixities fixities;
        private final IntStack waiting = new IntStack();
        // Of each group that is open, the whole row too: how many waited when it began.
        private final IntStack waitingBefore = new IntStack();
        private final IntStack ready = new IntStack();
        private final IntStack unnumbered = new IntStack();
        private final int[] firsts = new int[MOST_ITEMS];
        private final int[] seconds = new int[MOST_ITEMS];
        private final int[] sizes = new int[MOST_ITEMS];
        private final int[] heights = new int[MOST_ITEMS];
        private int mostWaiting;
        private int clashKind;
        private int clashWaiting;
        private int clashOther;

        Resolver(Row row, Fixities fixities) {
            this.row = row;
            this.fixities = fixities;
        }

        int mostWaiting() {
            return mostWaiting;
        }

        int clashKind() {
            return clashKind;
        }

        int clashWaiting() {
            return clashWaiting;
        }

        int clashOther() {
            return clashOther;
        }

        void run() {
            clear();
            for (int place = 0; place < row.size() && clashKind == NONE; place++) {
                switch (row.kindAt(place)) {
                    case OPERAND: finish(place); break;
                    case OPERATOR: meetOperator(place); break;
                    case NEGATION: meetNegation(place); break;
                    case OPEN: waitingBefore.push(waiting.size()); break;
                    case CLOSE: meetClose(place); break;
                    default: break;
                }
            }
            if (clashKind == NONE) {
                finishGroup();
            }
        }

        void numberInto(Tree tree) {
            tree.clear();
            int root = ready.top();
            tree.setHeight(heightOf(root));
            unnumbered.clear();
            unnumbered.push(root);
            for (int k = 0; k < MOST_ITEMS && unnumbered.size() > 0; k++) {
                int place = unnumbered.pop();
                int first = firstOf(place);
                int second = secondOf(place);
                tree.add(row.nodeKindAt(place), row.operatorAt(place), row.numberAt(place), place);
                tree.join(k, first == NONE ? NONE : k + 1, second == NONE ? NONE : k + 1 + sizeOf(first));
                if (second != NONE) {
                    unnumbered.push(second);
                }
                if (first != NONE) {
                    unnumbered.push(first);
                }
            }
        }

        private void clear() {
            waiting.clear();
            waitingBefore.clear();
            waitingBefore.push(0);
            ready.clear();
            mostWaiting = 0;
            clashKind = NONE;
            clashWaiting = NONE;
            clashOther = NONE;
        }

        private void meetNegation(int place) {
            if (oneWaits() && rankAt(waiting.top()) >= MINUS_RANK) {
                note(CLASH_OF_NEGATION, waiting.top(), place);
            } else {
                letWait(place);
            }
        }

        private void meetOperator(int place) {
            for (int turn = 0; turn < MOST_ITEMS && oneWaits(); turn++) {
                int newest = waiting.top();
                int fate = fateOf(newest, place);
                if (fate == WAITS_ON) {
                    break;
                }
                if (fate != IS_DONE) {
                    note(fate, newest, place);
                    return;
                }
                finish(waiting.pop());
            }
            letWait(place);
        }

        /** IS_DONE, WAITS_ON or the kind of the clash, as the operator at the place comes. */
        private int fateOf(int newest, int place) {
            int rank = rankAt(newest);
            int side = sideAt(newest);
            int otherRank = rankAt(place);
            if (rank == otherRank && (side != sideAt(place) || side == NO_SIDE)) {
                return CLASH_OF_SIDES;
            }
            int kind = row.nodeKindAt(newest);
            if (rank > otherRank || rank == otherRank && side == LEFT) {
                return kind == RIGHT_SECTION ? CLASH_IN_SECTION : IS_DONE;
            }
            return row.isPattern() && kind == NEGATION ? CLASH_IN_PATTERN : WAITS_ON;
        }

        private void meetClose(int place) {
            if (row.nodeKindAt(place - 1) == LEFT_SECTION) {
                int operator = waiting.pop();
                if (oneWaits()) {
                    note(CLASH_IN_SECTION, waiting.top(), operator);
                    return;
                }
                waiting.push(operator);
            }
            finishGroup();
        }

        private void finishGroup() {
            for (int turn = 0; turn < MOST_ITEMS && oneWaits(); turn++) {
                finish(waiting.pop());
            }
            waitingBefore.pop();
        }

        private void finish(int place) {
            if (!isPlace(place)) {
                return;
            }
            int kind = row.nodeKindAt(place);
            int second = kind == OPERATOR ? ready.pop() : NONE;
            int first = kind == OPERAND ? NONE : ready.pop();
            firsts[place] = first;
            seconds[place] = second;
            sizes[place] = 1 + sizeOf(first) + sizeOf(second);
            heights[place] = 1 + Math.max(heightOf(first), heightOf(second));
            ready.push(place);
        }

        private void letWait(int place) {
            waiting.push(place);
            mostWaiting = Math.max(mostWaiting, waiting.size());
        }

        private void note(int kind, int waitingPlace, int otherPlace) {
            clashKind = kind;
            clashWaiting = waitingPlace;
            clashOther = otherPlace;
        }

        private boolean oneWaits() {
            return waiting.size() > waitingBefore.top();
        }

        private int sideAt(int place) {
            return fixities.sideOf(row.operatorAt(place));
        }

        private int rankAt(int place) {
            return fixities.rankOf(row.operatorAt(place));
        }

        private int firstOf(int place) {
            return isPlace(place) ? firsts[place] : NONE;
        }

        private int secondOf(int place) {
            return isPlace(place) ? seconds[place] : NONE;
        }

        private int sizeOf(int place) {
            return isPlace(place) ? sizes[place] : 0;
        }

        private int heightOf(int place) {
            return isPlace(place) ? heights[place] : 0;
        }

        private static boolean isPlace(int place) {
            return place >= 0 && place < MOST_ITEMS;
        }
    }

    /** The tree as it was written latest; without items nothing was. */
    private static final class Written {
        private final Tree tree;
        private final Fixities fixities;
        private final int[] kinds = new int[MOST_WRITTEN];
        private final int[] operators = new int[MOST_WRITTEN];
        private final int[] nodes = new int[MOST_WRITTEN];
        private final long[] numbers = new long[MOST_WRITTEN];
        private int size;
        private int mostOpen;
        // Of each node while it is written: its brackets, how many items it takes, where they begin.
        private final boolean[] bracketed = new boolean[MOST_ITEMS];
        private final int[] widths = new int[MOST_ITEMS];
        private final int[] starts = new int[MOST_ITEMS];

        Written(Tree tree, Fixities fixities) {
            this.tree = tree;
            this.fixities = fixities;
        }

        int size() {
            return size;
        }

        int mostOpen() {
            return mostOpen;
        }

        boolean has(int i) {
            return i >= 0 && i < size && i < MOST_WRITTEN;
        }

        int kindAt(int i) {
            return has(i) ? kinds[i] : NONE;
        }

        int operatorAt(int i) {
            return has(i) ? operators[i] : NONE;
        }

        int nodeAt(int i) {
            return has(i) ? nodes[i] : NONE;
        }

        long numberAt(int i) {
            return has(i) ? numbers[i] : 0L;
        }

        /** A child's number is above its parent's, so that widths are there upwards, starts downwards. */
        void fill() {
            for (int k = 0; k < tree.size(); k++) {
                setBrackets(k, isSection(k));
            }
            for (int k = 0; k < tree.size(); k++) {
                bracketUnlessFit(k, tree.firstAt(k), firstStandsLeft(k) ? LEFT : RIGHT);
                bracketUnlessFit(k, tree.secondAt(k), RIGHT);
            }
            for (int k = tree.size() - 1; k >= 0; k--) {
                measure(k);
            }
            size = widthOf(0);
            setStart(0, 0);
            for (int k = 0; k < tree.size(); k++) {
                lay(k);
            }
            countOpen();
        }

        private void bracketUnlessFit(int parent, int child, int hand) {
            int kind = tree.kindAt(child);
            if (kind == OPERATOR || kind == NEGATION) {
                setBrackets(child, !fits(tree.operatorAt(child), tree.operatorAt(parent), hand));
            }
        }

        private boolean fits(int inner, int outer, int hand) {
            int innerRank = fixities.rankOf(inner);
            int outerRank = fixities.rankOf(outer);
            if (innerRank != outerRank) {
                return innerRank > outerRank;
            }
            return fixities.sideOf(inner) == hand && fixities.sideOf(outer) == hand;
        }

        private void measure(int k) {
            if (isNode(k)) {
                int own = bracketed[k] ? 3 : 1;
                widths[k] = own + widthOf(tree.firstAt(k)) + widthOf(tree.secondAt(k));
            }
        }

        private void lay(int k) {
            if (!isNode(k)) {
                return;
            }
            int at = starts[k];
            if (bracketed[k]) {
                put(at, OPEN, NONE, k, 0L);
                put(at + widths[k] - 1, CLOSE, NONE, k, 0L);
                at++;
            }
            int first = tree.firstAt(k);
            int own = firstStandsLeft(k) ? at + widthOf(first) : at;
            put(own, isSection(k) ? OPERATOR : tree.kindAt(k), tree.operatorAt(k), k, tree.numberAt(k));
            setStart(first, firstStandsLeft(k) ? at : own + 1);
            setStart(tree.secondAt(k), own + 1);
        }

        private void put(int i, int kind, int operator, int node, long number) {
            if (has(i)) {
                kinds[i] = kind;
                operators[i] = operator;
                nodes[i] = node;
                numbers[i] = number;
            }
        }

        private void countOpen() {
            int open = 0;
            mostOpen = 0;
            for (int i = 0; i < size; i++) {
                if (kindAt(i) == OPEN) {
                    open++;
                } else if (kindAt(i) == CLOSE) {
                    open--;
                }
                mostOpen = Math.max(mostOpen, open);
            }
        }

        private boolean isSection(int k) {
            int kind = tree.kindAt(k);
            return kind == LEFT_SECTION || kind == RIGHT_SECTION;
        }

        private boolean firstStandsLeft(int k) {
            int kind = tree.kindAt(k);
            return kind == OPERATOR || kind == LEFT_SECTION;
        }

        private void setBrackets(int k, boolean needed) {
            if (isNode(k)) {
                bracketed[k] = needed;
            }
        }

        private void setStart(int k, int start) {
            if (isNode(k)) {
                starts[k] = start;
            }
        }

        private int widthOf(int k) {
            return isNode(k) ? widths[k] : 0;
        }

        private static boolean isNode(int k) {
            return k >= 0 && k < MOST_ITEMS;
        }
    }
}

import java.util.Arrays;

/**
 * A workbench for tree automata with equality constraints between brothers.
 *
 * Sets of states, and sets of rules, are bit masks throughout.
 */
public final class BrotherAutomata {
    public static final int INVALID_ARGUMENT = -1;
    public static final int LIMIT_REACHED = -2;
    public static final int NOT_FOUND = -3;
    public static final int ANY = 0, EQUAL = 1, DIFFERENT = 2;
    public static final int MANY = 2;

    private static final int[] ARITY = {0, 0, 1, 2, 2};
    private static final int SYMBOLS = 5;
    private static final int UNARY = 2;
    private static final int BINARY = 3;

    private static final int INITIAL_STATES = 2;
    private static final int MOST_STATES = 6;
    private static final int MOST_SETS = 64;
    private static final int MOST_RULES = 16;
    private static final int MOST_UNDOS = 5;

    /** The trees of size s have the numbers from START[s] up to START[s + 1], that one not included. */
    private static final int[] START = {0, 0, 2, 4, 14, 40, 154, 556, 2278};
    private static final int MOST_SIZE = 7;
    private static final int TREES = 2278;

    private final SmallTrees trees;
    private final RuleBook book;
    private final History history;
    private final RuleMasks masks;
    private final RunCounter runCounter;
    private final Census census;
    /** The subsets of the trees 0 to subsetsKnown - 1; those behind are left from rules of before. */
    private final int[] subsets;
    private int subsetsKnown;
    private boolean censusKnown;
    private int states;

    public BrotherAutomata() {
        trees = new SmallTrees();
        book = new RuleBook();
        history = new History();
        masks = new RuleMasks();
        runCounter = new RunCounter();
        census = new Census();
        subsets = new int[TREES];
        subsetsKnown = 0;
        censusKnown = false;
        states = INITIAL_STATES;
    }

    // ---- automaton

    public int reset(int states) {
        if (states < 1 || states > MOST_STATES) {
            return INVALID_ARGUMENT;
        }
        int previous = this.states;
        this.states = states;
        book.clear();
        history.forget();
        renewRuns();
        return previous;
    }

    public int setFinal(int state, boolean isFinal) {
        if (!isState(state)) {
            return INVALID_ARGUMENT;
        }
        history.keep(book);
        book.markFinal(state, isFinal);
        return Integer.bitCount(book.finals);
    }

    public int addRule(int symbol, int first, int second, int constraint, int target) {
        if (!isSymbol(symbol) || !isState(target)
                || !isChildState(first, ARITY[symbol] > 0)
                || !isChildState(second, ARITY[symbol] > 1)
                || !isConstraint(constraint, ARITY[symbol] > 1)) {
            return INVALID_ARGUMENT;
        }
        if (book.count >= MOST_RULES) {
            return LIMIT_REACHED;
        }
        history.keep(book);
        book.append(symbol, first, second, constraint, target);
        renewRuns();
        return book.count - 1;
    }

    public int removeRule(int rule) {
        if (rule < 0 || rule >= book.count) {
            return INVALID_ARGUMENT;
        }
        history.keep(book);
        book.delete(rule);
        renewRuns();
        return book.count;
    }

    public int swapStates(int state, int other) {
        if (!isState(state) || !isState(other)) {
            return INVALID_ARGUMENT;
        }
        history.keep(book);
        int touched = book.rulesWith(state, other);
        book.exchange(state, other);
        renewRuns();
        return touched;
    }

    public int ruleCount() {
        return book.count;
    }

    public int finalStates() {
        return book.finals;
    }

    // ---- trees

    public int treeCount(int size) {
        if (!isSize(size)) {
            return INVALID_ARGUMENT;
        }
        return START[size + 1] - START[size];
    }

    public int treeOf(int symbol, int first, int second) {
        if (!isSymbol(symbol)
                || !isChildTree(first, ARITY[symbol] > 0)
                || !isChildTree(second, ARITY[symbol] > 1)) {
            return INVALID_ARGUMENT;
        }
        return trees.find(symbol, first, second);
    }

    public int symbolOf(int tree) {
        if (!isTree(tree)) {
            return INVALID_ARGUMENT;
        }
        return trees.symbolAt(tree);
    }

    public int childOf(int tree, int index) {
        if (!isTree(tree) || index < 0 || index > 1) {
            return INVALID_ARGUMENT;
        }
        if (index >= trees.arityAt(tree)) {
            return NOT_FOUND;
        }
        return index == 0 ? trees.firstAt(tree) : trees.secondAt(tree);
    }

    public int sizeOf(int tree) {
        if (!isTree(tree)) {
            return INVALID_ARGUMENT;
        }
        return sizeAt(tree);
    }

    public int heightOf(int tree) {
        if (!isTree(tree)) {
            return INVALID_ARGUMENT;
        }
        return trees.heights[tree];
    }

    // ---- runs

    public int subsetOf(int tree) {
        if (!isTree(tree)) {
            return INVALID_ARGUMENT;
        }
        return subsetAt(tree);
    }

    public int accepts(int tree) {
        if (!isTree(tree)) {
            return INVALID_ARGUMENT;
        }
        return isAccepted(tree) ? 1 : 0;
    }

    public int runCount(int tree, int state) {
        if (!isTree(tree) || !isState(state)) {
            return INVALID_ARGUMENT;
        }
        return runCounter.count(trees, book, tree, state);
    }

    public int acceptedCount(int size) {
        if (!isSize(size)) {
            return INVALID_ARGUMENT;
        }
        int count = 0;
        for (int tree = START[size]; tree < START[size + 1]; tree++) {
            if (isAccepted(tree)) {
                count++;
            }
        }
        return count;
    }

    public int acceptedTree(int size, int index) {
        if (!isSize(size) || index < 0) {
            return INVALID_ARGUMENT;
        }
        int passed = 0;
        for (int tree = START[size]; tree < START[size + 1]; tree++) {
            if (isAccepted(tree)) {
                if (passed == index) {
                    return tree;
                }
                passed++;
            }
        }
        return NOT_FOUND;
    }

    // ---- subset construction

    public int treesOfSet(int set) {
        if (set < 0 || set >= setCount()) {
            return INVALID_ARGUMENT;
        }
        renewCensus();
        return census.numbers[set];
    }

    public int reachedSets() {
        renewCensus();
        int reached = 0;
        for (int set = 0; set < setCount(); set++) {
            if (census.isReached(set)) {
                reached++;
            }
        }
        return reached;
    }

    public int isReachable(int state) {
        if (!isState(state)) {
            return INVALID_ARGUMENT;
        }
        renewCensus();
        return meetsReachedSet(1 << state) ? 1 : 0;
    }

    public int isEmpty() {
        renewCensus();
        return meetsReachedSet(book.finals) ? 0 : 1;
    }

    public int isUniversal() {
        renewCensus();
        for (int set = 0; set < setCount(); set++) {
            if (census.isReached(set) && (set & book.finals) == 0) {
                return 0;
            }
        }
        return 1;
    }

    public int isComplete() {
        renewCensus();
        return census.isReached(0) ? 0 : 1;
    }

    public int isDeterministic() {
        renewCensus();
        for (int set = 0; set < setCount(); set++) {
            if (census.isReached(set) && Integer.bitCount(set) > 1) {
                return 0;
            }
        }
        return 1;
    }

    public int leastHeight() {
        renewCensus();
        int least = NOT_FOUND;
        for (int set = 0; set < setCount(); set++) {
            if (census.isReached(set) && (set & book.finals) != 0
                    && (least == NOT_FOUND || census.heights[set] < least)) {
                least = census.heights[set];
            }
        }
        return least;
    }

    // ---- history

    public int undo() {
        if (history.kept == 0) {
            return NOT_FOUND;
        }
        history.giveBack(book);
        renewRuns();
        return history.kept;
    }

    // ---- what the arguments may be

    private static boolean isSymbol(int symbol) {
        return symbol >= 0 && symbol < SYMBOLS;
    }

    private static boolean isTree(int tree) {
        return tree >= 0 && tree < TREES;
    }

    private static boolean isSize(int size) {
        return size >= 1 && size <= MOST_SIZE;
    }

    private static boolean isChildTree(int tree, boolean hasChild) {
        return hasChild ? isTree(tree) : tree == 0;
    }

    private static boolean isConstraint(int constraint, boolean isBinary) {
        return isBinary ? constraint >= ANY && constraint <= DIFFERENT : constraint == ANY;
    }

    private boolean isState(int state) {
        return state >= 0 && state < states;
    }

    private boolean isChildState(int state, boolean hasChild) {
        return hasChild ? isState(state) : state == 0;
    }

    // ---- what follows from the rules

    private int setCount() {
        return 1 << states;
    }

    private static int sizeAt(int tree) {
        int size = 1;
        while (size < MOST_SIZE && tree >= START[size + 1]) {
            size++;
        }
        return size;
    }

    /** To be called whenever the rules or the number of states may have changed. */
    private void renewRuns() {
        masks.build(book);
        subsetsKnown = 0;
        censusKnown = false;
    }

    private void renewCensus() {
        if (!censusKnown) {
            census.take(masks, setCount());
            censusKnown = true;
        }
    }

    /**
     * Children have lower numbers than their parents, so their subsets are known when they are needed.
     * For a child that is missing the subset of tree 0 is handed on, known or not: no rule looks at it.
     */
    private int subsetAt(int tree) {
        for (; subsetsKnown <= tree; subsetsKnown++) {
            int first = trees.firstAt(subsetsKnown);
            int second = trees.secondAt(subsetsKnown);
            subsets[subsetsKnown] = masks.step(trees.symbolAt(subsetsKnown),
                    subsets[first], subsets[second], first == second);
        }
        return subsets[tree];
    }

    private boolean isAccepted(int tree) {
        return (subsetAt(tree) & book.finals) != 0;
    }

    private boolean meetsReachedSet(int wanted) {
        for (int set = 0; set < setCount(); set++) {
            if (census.isReached(set) && (set & wanted) != 0) {
                return true;
            }
        }
        return false;
    }

    /** All trees of at most seven nodes, in the order of their numbers. */
    private static final class SmallTrees {
        private static final int CHILD_BITS = 10;
        private static final int CHILD_MASK = 1023;

        /** Symbol, first and second child of each tree in one number; a child that is missing is 0. */
        private final int[] contents;
        private final int[] heights;
        private int made;

        SmallTrees() {
            contents = new int[TREES];
            heights = new int[TREES];
            made = 0;
            make(0, 0, 0);
            make(1, 0, 0);
            for (int size = 2; size <= MOST_SIZE; size++) {
                makeUnary(size);
                makeBinary(BINARY, size);
                makeBinary(BINARY + 1, size);
            }
        }

        private void makeUnary(int size) {
            for (int child = START[size - 1]; child < START[size]; child++) {
                make(UNARY, child, 0);
            }
        }

        private void makeBinary(int symbol, int size) {
            for (int first = 0; first < START[size - 1]; first++) {
                int rest = size - 1 - sizeAt(first);
                for (int second = START[rest]; second < START[rest + 1]; second++) {
                    make(symbol, first, second);
                }
            }
        }

        private void make(int symbol, int first, int second) {
            if (made < TREES) {
                contents[made] = content(symbol, first, second);
                heights[made] = ARITY[symbol] == 0 ? 0 : 1 + Math.max(heights[first], heights[second]);
                made++;
            }
        }

        private static int content(int symbol, int first, int second) {
            return (symbol << CHILD_BITS | first) << CHILD_BITS | second;
        }

        int symbolAt(int tree) {
            return contents[tree] >> CHILD_BITS >> CHILD_BITS;
        }

        int firstAt(int tree) {
            return contents[tree] >> CHILD_BITS & CHILD_MASK;
        }

        int secondAt(int tree) {
            return contents[tree] & CHILD_MASK;
        }

        int arityAt(int tree) {
            return ARITY[symbolAt(tree)];
        }

        /** The number of the tree, or LIMIT_REACHED if it is no small one. */
        int find(int symbol, int first, int second) {
            int size = 1;
            if (ARITY[symbol] > 0) {
                size += sizeAt(first);
            }
            if (ARITY[symbol] > 1) {
                size += sizeAt(second);
            }
            if (size > MOST_SIZE) {
                return LIMIT_REACHED;
            }
            int wanted = content(symbol, first, second);
            for (int tree = START[size]; tree < START[size + 1]; tree++) {
                if (contents[tree] == wanted) {
                    return tree;
                }
            }
            return LIMIT_REACHED;
        }
    }

    /** The rules and the final states: all that an edit can change. */
    private static final class RuleBook {
        private final int[] symbols;
        private final int[] firsts;
        private final int[] seconds;
        private final int[] constraints;
        private final int[] targets;
        private int count;
        private int finals;

        RuleBook() {
            symbols = new int[MOST_RULES];
            firsts = new int[MOST_RULES];
            seconds = new int[MOST_RULES];
            constraints = new int[MOST_RULES];
            targets = new int[MOST_RULES];
            count = 0;
            finals = 0;
        }

        void clear() {
            count = 0;
            finals = 0;
        }

        void copyFrom(RuleBook other) {
            count = other.count;
            finals = other.finals;
            System.arraycopy(other.symbols, 0, symbols, 0, MOST_RULES);
            System.arraycopy(other.firsts, 0, firsts, 0, MOST_RULES);
            System.arraycopy(other.seconds, 0, seconds, 0, MOST_RULES);
            System.arraycopy(other.constraints, 0, constraints, 0, MOST_RULES);
            System.arraycopy(other.targets, 0, targets, 0, MOST_RULES);
        }

        void markFinal(int state, boolean isFinal) {
            finals = isFinal ? finals | 1 << state : finals & ~(1 << state);
        }

        void append(int symbol, int first, int second, int constraint, int target) {
            if (count < MOST_RULES) {
                symbols[count] = symbol;
                firsts[count] = first;
                seconds[count] = second;
                constraints[count] = constraint;
                targets[count] = target;
                count++;
            }
        }

        void delete(int rule) {
            if (rule < count) {
                count--;
                closeGap(symbols, rule);
                closeGap(firsts, rule);
                closeGap(seconds, rule);
                closeGap(constraints, rule);
                closeGap(targets, rule);
            }
        }

        private void closeGap(int[] row, int gap) {
            for (int rule = gap; rule < count; rule++) {
                row[rule] = row[rule + 1];
            }
        }

        int rulesWith(int state, int other) {
            int found = 0;
            for (int rule = 0; rule < count; rule++) {
                if (contains(rule, state) || contains(rule, other)) {
                    found++;
                }
            }
            return found;
        }

        /** A place of a child that the symbol does not have holds 0, and that is no state of the rule. */
        private boolean contains(int rule, int state) {
            int arity = ARITY[symbols[rule]];
            return targets[rule] == state
                    || arity > 0 && firsts[rule] == state
                    || arity > 1 && seconds[rule] == state;
        }

        void exchange(int state, int other) {
            for (int rule = 0; rule < count; rule++) {
                int arity = ARITY[symbols[rule]];
                targets[rule] = swapped(targets[rule], state, other);
                if (arity > 0) {
                    firsts[rule] = swapped(firsts[rule], state, other);
                }
                if (arity > 1) {
                    seconds[rule] = swapped(seconds[rule], state, other);
                }
            }
            boolean stateWasFinal = (finals >> state & 1) != 0;
            boolean otherWasFinal = (finals >> other & 1) != 0;
            markFinal(state, otherWasFinal);
            markFinal(other, stateWasFinal);
        }

        private static int swapped(int found, int state, int other) {
            if (found == state) {
                return other;
            }
            return found == other ? state : found;
        }
    }

    /** The rule books from before the latest edits, in a ring, so that the oldest one makes room. */
    private static final class History {
        private final RuleBook[] ring;
        private int next;
        private int kept;

        History() {
            ring = new RuleBook[MOST_UNDOS];
            for (int place = 0; place < MOST_UNDOS; place++) {
                ring[place] = new RuleBook();
            }
            next = 0;
            kept = 0;
        }

        void forget() {
            next = 0;
            kept = 0;
        }

        void keep(RuleBook book) {
            ring[next].copyFrom(book);
            next = next + 1 < MOST_UNDOS ? next + 1 : 0;
            kept = Math.min(kept + 1, MOST_UNDOS);
        }

        void giveBack(RuleBook book) {
            if (kept > 0) {
                next = next > 0 ? next - 1 : MOST_UNDOS - 1;
                book.copyFrom(ring[next]);
                kept--;
            }
        }
    }

    /**
     * The rules as bit masks by what they ask for, so that a step from the children's subsets to the
     * parent's needs no look at rules that do not fit. Without rules all masks are 0.
     */
    private static final class RuleMasks {
        private final int[] bySymbol;
        /** For each set, the rules whose first child state is in it; rules without that child fit all sets. */
        private final int[] byFirst;
        private final int[] bySecond;
        private final int[] targetSets;
        private int whenEqual;
        private int whenDifferent;

        RuleMasks() {
            bySymbol = new int[SYMBOLS];
            byFirst = new int[MOST_SETS];
            bySecond = new int[MOST_SETS];
            targetSets = new int[MOST_RULES];
            whenEqual = 0;
            whenDifferent = 0;
        }

        void build(RuleBook book) {
            Arrays.fill(bySymbol, 0);
            Arrays.fill(byFirst, 0);
            Arrays.fill(bySecond, 0);
            whenEqual = 0;
            whenDifferent = 0;
            for (int rule = 0; rule < book.count; rule++) {
                enter(book, rule);
            }
            spread(byFirst);
            spread(bySecond);
        }

        private void enter(RuleBook book, int rule) {
            int bit = 1 << rule;
            int symbol = book.symbols[rule];
            int arity = ARITY[symbol];
            bySymbol[symbol] |= bit;
            byFirst[arity > 0 ? 1 << book.firsts[rule] : 0] |= bit;
            bySecond[arity > 1 ? 1 << book.seconds[rule] : 0] |= bit;
            targetSets[rule] = 1 << book.targets[rule];
            if (book.constraints[rule] != DIFFERENT) {
                whenEqual |= bit;
            }
            if (book.constraints[rule] != EQUAL) {
                whenDifferent |= bit;
            }
        }

        /** From the rules of the single states, and of the empty set, to those of all sets. */
        private static void spread(int[] rulesBySet) {
            for (int set = 1; set < MOST_SETS; set++) {
                int lowest = set & -set;
                rulesBySet[set] = rulesBySet[set - lowest] | rulesBySet[lowest];
            }
        }

        /** The subset of a tree; sets of children that the symbol does not have make no difference. */
        int step(int symbol, int firstSet, int secondSet, boolean equalChildren) {
            int fitting = bySymbol[symbol] & byFirst[firstSet] & bySecond[secondSet]
                    & (equalChildren ? whenEqual : whenDifferent);
            int reached = 0;
            for (int rule = 0; rule < MOST_RULES && fitting >> rule != 0; rule++) {
                if ((fitting >> rule & 1) != 0) {
                    reached |= targetSets[rule];
                }
            }
            return reached;
        }
    }

    /** Counts runs node by node: at most seven nodes, each with a row of numbers by state. */
    private static final class RunCounter {
        /** The subtrees at the nodes, each behind its parent, brothers side by side. */
        private final int[] nodes;
        private final int[] firstPlaces;
        private final int[] runs;

        RunCounter() {
            nodes = new int[MOST_SIZE];
            firstPlaces = new int[MOST_SIZE];
            runs = new int[MOST_SIZE * MOST_STATES];
        }

        int count(SmallTrees trees, RuleBook book, int tree, int state) {
            int used = layOut(trees, tree);
            Arrays.fill(runs, 0);
            for (int place = used - 1; place >= 0; place--) {
                countAt(trees, book, place);
            }
            return runs[state];
        }

        private int layOut(SmallTrees trees, int tree) {
            nodes[0] = tree;
            int used = 1;
            for (int place = 0; place < used && place < MOST_SIZE; place++) {
                int arity = trees.arityAt(nodes[place]);
                firstPlaces[place] = used;
                if (arity > 0 && used < MOST_SIZE) {
                    nodes[used] = trees.firstAt(nodes[place]);
                    used++;
                }
                if (arity > 1 && used < MOST_SIZE) {
                    nodes[used] = trees.secondAt(nodes[place]);
                    used++;
                }
            }
            return used;
        }

        private void countAt(SmallTrees trees, RuleBook book, int place) {
            int node = nodes[place];
            int symbol = trees.symbolAt(node);
            int unwanted = trees.firstAt(node) == trees.secondAt(node) ? DIFFERENT : EQUAL;
            for (int rule = 0; rule < book.count; rule++) {
                if (book.symbols[rule] == symbol && book.constraints[rule] != unwanted) {
                    runs[place * MOST_STATES + book.targets[rule]] += waysBelow(book, rule, place);
                }
            }
        }

        private int waysBelow(RuleBook book, int rule, int place) {
            int arity = ARITY[book.symbols[rule]];
            int row = firstPlaces[place] * MOST_STATES;
            int ways = 1;
            if (arity > 0) {
                ways = runs[row + book.firsts[rule]];
            }
            if (arity > 1) {
                ways *= runs[row + MOST_STATES + book.seconds[rule]];
            }
            return ways;
        }
    }

    /**
     * The subset construction. In round h the trees of a height of at most h are counted by their subsets,
     * from the numbers of the round before; no number goes beyond MANY.
     */
    private static final class Census {
        /** Each round but the last raises a number, and each number rises at most MANY times. */
        private static final int MOST_ROUNDS = MANY * MOST_SETS + 1;

        private final int[] numbers;
        private final int[] before;
        /** The least height of a tree of each reached set. */
        private final int[] heights;

        Census() {
            numbers = new int[MOST_SETS];
            before = new int[MOST_SETS];
            heights = new int[MOST_SETS];
        }

        boolean isReached(int set) {
            return numbers[set] > 0;
        }

        void take(RuleMasks masks, int sets) {
            Arrays.fill(numbers, 0);
            boolean grown = true;
            for (int round = 0; round < MOST_ROUNDS && grown; round++) {
                System.arraycopy(numbers, 0, before, 0, MOST_SETS);
                Arrays.fill(numbers, 0);
                countConstants(masks);
                countUnary(masks, sets);
                countBinary(masks, sets);
                grown = noteGrowth(round, sets);
            }
        }

        private void countConstants(RuleMasks masks) {
            for (int symbol = 0; symbol < UNARY; symbol++) {
                raise(masks.step(symbol, 0, 0, true), 1);
            }
        }

        private void countUnary(RuleMasks masks, int sets) {
            for (int set = 0; set < sets; set++) {
                if (before[set] > 0) {
                    raise(masks.step(UNARY, set, 0, true), before[set]);
                }
            }
        }

        private void countBinary(RuleMasks masks, int sets) {
            for (int first = 0; first < sets; first++) {
                for (int second = 0; second < sets && before[first] > 0; second++) {
                    if (before[second] > 0) {
                        countPairs(masks, BINARY, first, second);
                        countPairs(masks, BINARY + 1, first, second);
                    }
                }
            }
        }

        /** Children of different subsets are different; of one subset they are equal or not. */
        private void countPairs(RuleMasks masks, int symbol, int first, int second) {
            int differentPairs = before[first] * before[second];
            if (first == second) {
                raise(masks.step(symbol, first, second, true), before[first]);
                differentPairs -= before[first];
            }
            if (differentPairs > 0) {
                raise(masks.step(symbol, first, second, false), differentPairs);
            }
        }

        private void raise(int set, int more) {
            numbers[set] = Math.min(numbers[set] + more, MANY);
        }

        private boolean noteGrowth(int round, int sets) {
            boolean grown = false;
            for (int set = 0; set < sets; set++) {
                if (numbers[set] != before[set]) {
                    grown = true;
                    if (before[set] == 0) {
                        heights[set] = round;
                    }
                }
            }
            return grown;
        }
    }
}

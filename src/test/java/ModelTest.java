import java.util.Random;

/** Random runs of calls, each answer against the naive model; the seeds are fixed, so a run can be told again. */
final class ModelTest {
    private static final int[] ODD = {-1, -2, 5, 6, 7, 8, 16, 63, 64, 2277, 2278, Integer.MIN_VALUE, Integer.MAX_VALUE};

    /** Found by search: the subset construction goes on for more than forty heights until nothing grows. */
    private static final int[][][] SLOW = {
        {{2, 5, 0, 0, 0}, {3, 2, 2, 2, 0}, {2, 2, 0, 0, 3}, {4, 0, 5, 1, 3}, {0, 0, 0, 0, 3}, {3, 0, 0, 1, 4},
            {2, 2, 0, 0, 3}, {4, 1, 2, 2, 0}, {2, 4, 0, 0, 1}, {2, 0, 0, 0, 4}, {4, 2, 0, 1, 2}, {2, 1, 0, 0, 5},
            {2, 3, 0, 0, 2}, {2, 5, 0, 0, 4}, {4, 1, 1, 0, 0}, {3, 1, 3, 2, 4}},
        {{1, 0, 0, 0, 3}, {2, 5, 0, 0, 3}, {3, 4, 5, 2, 4}, {3, 5, 4, 2, 3}, {3, 1, 5, 2, 2}, {2, 0, 0, 0, 2},
            {2, 4, 0, 0, 0}, {3, 0, 0, 2, 1}, {4, 5, 1, 2, 1}, {2, 1, 0, 0, 1}, {0, 0, 0, 0, 4}, {2, 2, 0, 0, 5},
            {2, 3, 0, 0, 4}, {1, 0, 0, 0, 0}, {4, 2, 3, 1, 4}, {3, 1, 3, 2, 0}},
        {{1, 0, 0, 0, 2}, {3, 3, 5, 2, 0}, {3, 2, 2, 0, 3}, {4, 2, 0, 1, 0}, {2, 5, 0, 0, 4}, {4, 0, 5, 0, 3},
            {2, 0, 0, 0, 1}, {4, 5, 3, 2, 0}, {2, 3, 0, 0, 4}, {2, 1, 0, 0, 5}, {3, 0, 1, 2, 1}, {2, 5, 0, 0, 3},
            {2, 4, 0, 0, 0}, {2, 2, 0, 0, 2}, {4, 3, 1, 1, 2}, {3, 0, 4, 0, 4}}};

    private final Random random;
    private final String name;
    private final BrotherAutomata object = new BrotherAutomata();
    private final NaiveModel model = new NaiveModel();
    private int states = 2;

    private ModelTest(long seed) {
        random = new Random(seed);
        name = "seed " + seed + ", ";
    }

    public static void main(String[] args) {
        for (long seed = 1; seed <= 80 && !Check.anyFailed(); seed++) {
            new ModelTest(seed).longRun();
        }
        for (long seed = 1001; seed <= 1400 && !Check.anyFailed(); seed++) {
            new ModelTest(seed).wholeAutomaton();
        }
        for (int[][] rules : SLOW) {
            new ModelTest(0).slowAutomaton(rules);
        }
        Check.close("ModelTest");
    }

    private void longRun() {
        for (int call = 0; call < 512; call++) {
            if (random.nextInt(100) == 0 || call == 0) {
                reset(odd(1 + random.nextInt(6)));
            } else if (random.nextInt(5) < 2) {
                edit(call);
            } else if (random.nextInt(3) == 0) {
                askTree(call);
            } else {
                askAutomaton(call);
            }
        }
    }

    /** One automaton with all that can be asked about its sets and its small trees. */
    private void wholeAutomaton() {
        reset(1 + random.nextInt(6));
        int wanted = random.nextInt(17);
        for (int rule = 0; rule < wanted; rule++) {
            addRule(rule, false);
        }
        for (int state = 0; state < states; state++) {
            boolean isFinal = random.nextBoolean();
            due(state, "setFinal", object.setFinal(state, isFinal), model.setFinal(state, isFinal));
        }
        for (int set = 0; set < 1 << states; set++) {
            due(set, "treesOfSet", object.treesOfSet(set), model.treesOfSet(set));
        }
        for (int question = 0; question < 8; question++) {
            askSets(0, question);
        }
        for (int size = 1; size <= 7; size++) {
            due(size, "acceptedCount", object.acceptedCount(size), model.acceptedCount(size));
        }
        for (int tree = 0; tree < 2278; tree++) {
            due(tree, "subsetOf", object.subsetOf(tree), model.subsetOf(tree));
            int state = tree % states;
            due(tree, "runCount", object.runCount(tree, state), model.runCount(tree, state));
        }
    }

    private void slowAutomaton(int[][] rules) {
        reset(6);
        for (int[] rule : rules) {
            due(0, "addRule", object.addRule(rule[0], rule[1], rule[2], rule[3], rule[4]),
                    model.addRule(rule[0], rule[1], rule[2], rule[3], rule[4]));
        }
        for (int set = 0; set < 64; set++) {
            due(set, "treesOfSet", object.treesOfSet(set), model.treesOfSet(set));
        }
        for (int state = 0; state < 6; state++) {
            due(state, "setFinal", object.setFinal(state, true), model.setFinal(state, true));
            due(state, "leastHeight", object.leastHeight(), model.leastHeight());
            due(state, "setFinal", object.setFinal(state, false), model.setFinal(state, false));
            due(state, "isReachable", object.isReachable(state), model.isReachable(state));
        }
        due(0, "reachedSets", object.reachedSets(), model.reachedSets());
    }

    private void due(int call, String what, int got, int want) {
        Check.due(name + "call " + call + ", " + what, got, want);
    }

    private int odd(int usual) {
        return random.nextInt(25) == 0 ? ODD[random.nextInt(ODD.length)] : usual;
    }

    private int anyState() {
        return odd(random.nextInt(states));
    }

    private int anyTree() {
        int below = random.nextInt(3) == 0 ? 2278 : random.nextInt(2) == 0 ? 154 : 14;
        return odd(random.nextInt(below));
    }

    private void reset(int newStates) {
        due(0, "reset(" + newStates + ")", object.reset(newStates), model.reset(newStates));
        states = newStates >= 1 && newStates <= 6 ? newStates : states;
    }

    private void addRule(int call, boolean mayBeWrong) {
        int symbol = random.nextInt(3) == 0 ? random.nextInt(2) : 2 + random.nextInt(3);
        int first = symbol < 2 ? 0 : random.nextInt(states);
        int second = symbol < 3 ? 0 : random.nextInt(states);
        int constraint = symbol < 3 ? 0 : random.nextInt(3);
        int target = random.nextInt(states);
        if (mayBeWrong) {
            symbol = odd(symbol);
            first = odd(first);
            second = odd(second);
            constraint = odd(constraint);
            target = odd(target);
        }
        due(call, "addRule(" + symbol + ", " + first + ", " + second + ", " + constraint + ", " + target + ")",
                object.addRule(symbol, first, second, constraint, target),
                model.addRule(symbol, first, second, constraint, target));
    }

    private void edit(int call) {
        int kind = random.nextInt(20);
        if (kind < 9) {
            addRule(call, true);
        } else if (kind < 12) {
            int rule = odd(random.nextInt(Math.max(1, model.ruleCount())));
            due(call, "removeRule(" + rule + ")", object.removeRule(rule), model.removeRule(rule));
        } else if (kind < 14) {
            int state = anyState();
            int other = anyState();
            due(call, "swapStates(" + state + ", " + other + ")",
                    object.swapStates(state, other), model.swapStates(state, other));
        } else if (kind < 17) {
            int state = anyState();
            boolean isFinal = random.nextInt(3) > 0;
            due(call, "setFinal(" + state + ", " + isFinal + ")",
                    object.setFinal(state, isFinal), model.setFinal(state, isFinal));
        } else {
            due(call, "undo()", object.undo(), model.undo());
        }
        Check.due(name + "call " + call + ", ruleCount()", object.ruleCount(), model.ruleCount());
        Check.due(name + "call " + call + ", finalStates()", object.finalStates(), model.finalStates());
    }

    private void askTree(int call) {
        int tree = anyTree();
        int other = anyTree();
        int symbol = odd(random.nextInt(5));
        int size = odd(1 + random.nextInt(7));
        int index = odd(random.nextInt(2));
        switch (random.nextInt(6)) {
            case 0 -> due(call, "treeCount(" + size + ")", object.treeCount(size), model.treeCount(size));
            case 1 -> {
                int first = symbol < 2 ? odd(0) : tree;
                int second = symbol < 3 ? odd(0) : other;
                due(call, "treeOf(" + symbol + ", " + first + ", " + second + ")",
                        object.treeOf(symbol, first, second), model.treeOf(symbol, first, second));
            }
            case 2 -> due(call, "symbolOf(" + tree + ")", object.symbolOf(tree), model.symbolOf(tree));
            case 3 -> due(call, "childOf(" + tree + ", " + index + ")",
                    object.childOf(tree, index), model.childOf(tree, index));
            case 4 -> due(call, "sizeOf(" + tree + ")", object.sizeOf(tree), model.sizeOf(tree));
            default -> due(call, "heightOf(" + tree + ")", object.heightOf(tree), model.heightOf(tree));
        }
    }

    private void askAutomaton(int call) {
        int tree = anyTree();
        int state = anyState();
        int size = odd(1 + random.nextInt(7));
        int index = odd(random.nextInt(random.nextInt(3) == 0 ? 200 : 4));
        switch (random.nextInt(12)) {
            case 0 -> due(call, "subsetOf(" + tree + ")", object.subsetOf(tree), model.subsetOf(tree));
            case 1 -> due(call, "accepts(" + tree + ")", object.accepts(tree), model.accepts(tree));
            case 2 -> due(call, "runCount(" + tree + ", " + state + ")",
                    object.runCount(tree, state), model.runCount(tree, state));
            case 3 -> due(call, "acceptedCount(" + size + ")", object.acceptedCount(size), model.acceptedCount(size));
            case 4 -> due(call, "acceptedTree(" + size + ", " + index + ")",
                    object.acceptedTree(size, index), model.acceptedTree(size, index));
            default -> askSets(call, random.nextInt(8));
        }
    }

    private void askSets(int call, int question) {
        int set = odd(random.nextInt(1 << states));
        int state = anyState();
        switch (question) {
            case 0 -> due(call, "treesOfSet(" + set + ")", object.treesOfSet(set), model.treesOfSet(set));
            case 1 -> due(call, "reachedSets()", object.reachedSets(), model.reachedSets());
            case 2 -> due(call, "isReachable(" + state + ")", object.isReachable(state), model.isReachable(state));
            case 3 -> due(call, "isEmpty()", object.isEmpty(), model.isEmpty());
            case 4 -> due(call, "isUniversal()", object.isUniversal(), model.isUniversal());
            case 5 -> due(call, "isComplete()", object.isComplete(), model.isComplete());
            case 6 -> due(call, "isDeterministic()", object.isDeterministic(), model.isDeterministic());
            default -> due(call, "leastHeight()", object.leastHeight(), model.leastHeight());
        }
    }
}

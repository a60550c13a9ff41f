/** The sentences of the document's description that name a boundary, each with a test of its own. */
final class DescriptionEdgesTest {
    private static final int INVALID = -1;
    private static final int LIMIT = -2;
    private static final int MISSING = -3;
    /** FIRST[s] is the first tree of size s; FIRST[8] is the number behind the last small tree. */
    private static final int[] FIRST = {0, 0, 2, 4, 14, 40, 154, 556, 2278};

    private DescriptionEdgesTest() {
    }

    public static void main(String[] args) {
        fiveSymbols();
        asManyChildrenAsTheArity();
        heightOfConstants();
        equalTrees();
        sizeOfAtMostSeven();
        sizeBeyondSeven();
        numbersBySize();
        numbersBySymbol();
        numbersByFirstThenSecondChild();
        oneToSixStates();
        atMostSixteenRules();
        roomWhenNoLongerFull();
        initialAutomaton();
        constraintOnEqualAndDifferent();
        rulesInEachPlace();
        anotherConstraintInTheSamePlace();
        subsetEmptyAndFull();
        acceptanceByOneFinalState();
        runsOfSameRules();
        noTreeOneTreeManyTrees();
        treesOfAnySize();
        emptySetReachedOrNot();
        emptySetReachedLast();
        emptyOrOneTree();
        universalOrAllButOneTree();
        completeAndUniversalBeyondSmallTrees();
        deterministicWithAtMostOneElement();
        fiveHundredAndTwelveCalls();
        Check.close("DescriptionEdgesTest");
    }

    /** "There are five symbols: the constants 0 and 1, the unary symbol 2, and the binary symbols 3 and 4." */
    private static void fiveSymbols() {
        BrotherAutomata x = new BrotherAutomata();
        Check.due("symbol -1, rule", x.addRule(-1, 0, 0, 0, 0), INVALID);
        Check.due("symbol -1, tree", x.treeOf(-1, 0, 0), INVALID);
        int[] trees = {0, 1, 2, 6, 10};
        for (int symbol = 0; symbol < 5; symbol++) {
            Check.due("symbol " + symbol + ", rule", x.addRule(symbol, 0, 0, 0, 0), symbol);
            Check.due("symbol " + symbol + ", tree", x.treeOf(symbol, 0, 0), trees[symbol]);
        }
        Check.due("symbol 5, rule", x.addRule(5, 0, 0, 0, 0), INVALID);
        Check.due("symbol 5, tree", x.treeOf(5, 0, 0), INVALID);
    }

    /** "A tree consists of a symbol and as many child trees as its arity tells." */
    private static void asManyChildrenAsTheArity() {
        BrotherAutomata x = new BrotherAutomata();
        int[] trees = {0, 1, 3, 9, 13};
        int[] arities = {0, 0, 1, 2, 2};
        for (int symbol = 0; symbol < 5; symbol++) {
            for (int index = 0; index < 2; index++) {
                Check.due("child " + index + " of symbol " + symbol, x.childOf(trees[symbol], index),
                        index < arities[symbol] ? 1 : MISSING);
            }
        }
    }

    /** "Its height is 0 for a constant, and otherwise 1 more than the greatest height of its children." */
    private static void heightOfConstants() {
        BrotherAutomata x = new BrotherAutomata();
        Check.due("constant 0", x.heightOf(0), 0);
        Check.due("constant 1", x.heightOf(1), 0);
        Check.due("unary on a constant", x.heightOf(2), 1);
        Check.due("binary on constants", x.heightOf(6), 1);
        Check.due("the first child is the higher one", x.heightOf(x.treeOf(4, 2, 1)), 2);
        Check.due("the second child is the higher one", x.heightOf(x.treeOf(4, 1, 2)), 2);
        Check.due("the highest small tree", x.heightOf(FIRST[7]), 6);
        Check.due("the lowest tree of size 7", x.heightOf(x.treeOf(3, 6, 13)), 2);
    }

    /** "Two trees are equal if they have the same symbol and equal children." */
    private static void equalTrees() {
        BrotherAutomata x = new BrotherAutomata();
        x.addRule(0, 0, 0, 0, 0);
        x.addRule(1, 0, 0, 0, 0);
        x.addRule(2, 0, 0, 0, 0);
        x.addRule(3, 0, 0, 0, 0);
        x.addRule(4, 0, 0, 0, 0);
        x.addRule(4, 0, 0, 1, 1);
        Check.due("the same tree twice", x.subsetOf(x.treeOf(4, 7, 7)), 3);
        Check.due("another symbol", x.subsetOf(x.treeOf(4, 7, 11)), 1);
        Check.due("another first child", x.subsetOf(x.treeOf(4, 7, 9)), 1);
        Check.due("another second child", x.subsetOf(x.treeOf(4, 7, 6)), 1);
        Check.due("exchanged children", x.subsetOf(x.treeOf(4, 7, 8)), 1);
        Check.due("other constants", x.subsetOf(x.treeOf(4, 0, 1)), 1);
    }

    /** "The small trees are those with a size of at most 7." */
    private static void sizeOfAtMostSeven() {
        BrotherAutomata x = new BrotherAutomata();
        Check.due("size 7, unary", x.sizeOf(x.treeOf(2, FIRST[6], 0)), 7);
        Check.due("size 7, unary, last", x.sizeOf(x.treeOf(2, FIRST[7] - 1, 0)), 7);
        for (int size = 1; size <= 5; size++) {
            int rest = 6 - size;
            Check.due("size 7, " + size + " and " + rest, x.sizeOf(x.treeOf(3, FIRST[size], FIRST[rest])), 7);
            Check.due("size 7, last ones", x.sizeOf(x.treeOf(4, FIRST[size + 1] - 1, FIRST[rest + 1] - 1)), 7);
        }
        Check.due("the last small tree", x.sizeOf(2277), 7);
        Check.due("behind the last small tree", x.sizeOf(2278), INVALID);
        Check.due("before the first small tree", x.sizeOf(-1), INVALID);
        int all = 0;
        for (int size = 1; size <= 7; size++) {
            all += x.treeCount(size);
        }
        Check.due("all small trees", all, 2278);
    }

    private static void sizeBeyondSeven() {
        BrotherAutomata x = new BrotherAutomata();
        Check.due("size 8, unary", x.treeOf(2, FIRST[7], 0), LIMIT);
        Check.due("size 8, unary, last", x.treeOf(2, 2277, 0), LIMIT);
        for (int size = 1; size <= 6; size++) {
            int rest = 7 - size;
            Check.due("size 8, " + size + " and " + rest, x.treeOf(3, FIRST[size], FIRST[rest]), LIMIT);
            Check.due("size 8, last ones", x.treeOf(4, FIRST[size + 1] - 1, FIRST[rest + 1] - 1), LIMIT);
        }
        Check.due("size 9, 7 and 1", x.treeOf(3, 2277, 0), LIMIT);
        Check.due("size 9, 1 and 7", x.treeOf(3, 0, 2277), LIMIT);
        Check.due("size 15, 7 and 7", x.treeOf(4, 2277, 2277), LIMIT);
    }

    /** "They are numbered from 0 in this order: by size; .." */
    private static void numbersBySize() {
        BrotherAutomata x = new BrotherAutomata();
        for (int size = 1; size <= 7; size++) {
            Check.due("first of size " + size, x.sizeOf(FIRST[size]), size);
            Check.due("last of size " + size, x.sizeOf(FIRST[size + 1] - 1), size);
            Check.due("number of size " + size, x.treeCount(size), FIRST[size + 1] - FIRST[size]);
        }
    }

    /** ".. then by symbol; .." */
    private static void numbersBySymbol() {
        BrotherAutomata x = new BrotherAutomata();
        for (int size = 2; size <= 7; size++) {
            int unary = FIRST[size] - FIRST[size - 1];
            int binary = (FIRST[size + 1] - FIRST[size] - unary) / 2;
            Check.due("first unary of size " + size, x.symbolOf(FIRST[size]), 2);
            Check.due("last unary of size " + size, x.symbolOf(FIRST[size] + unary - 1), 2);
            if (size > 2) {
                Check.due("first 3 of size " + size, x.symbolOf(FIRST[size] + unary), 3);
                Check.due("last 3 of size " + size, x.symbolOf(FIRST[size] + unary + binary - 1), 3);
                Check.due("first 4 of size " + size, x.symbolOf(FIRST[size] + unary + binary), 4);
                Check.due("last 4 of size " + size, x.symbolOf(FIRST[size + 1] - 1), 4);
            }
        }
    }

    /** ".. then by the number of the first child; then by the number of the second child." */
    private static void numbersByFirstThenSecondChild() {
        BrotherAutomata x = new BrotherAutomata();
        int[][] pairs = {{0, 2}, {0, 3}, {1, 2}, {1, 3}, {2, 0}, {2, 1}, {3, 0}, {3, 1}};
        for (int place = 0; place < pairs.length; place++) {
            Check.due("size 4, 3, pair " + place, x.treeOf(3, pairs[place][0], pairs[place][1]), 24 + place);
            Check.due("size 4, 4, pair " + place, x.treeOf(4, pairs[place][0], pairs[place][1]), 32 + place);
        }
        Check.due("size 7, first 3", x.treeOf(3, 0, 40), 958);
        Check.due("size 7, last with first child 0", x.treeOf(3, 0, 153), 1071);
        Check.due("size 7, first with first child 1", x.treeOf(3, 1, 40), 1072);
        Check.due("size 7, last 3", x.treeOf(3, 153, 1), 1617);
        Check.due("size 7, first 4", x.treeOf(4, 0, 40), 1618);
        Check.due("size 7, last 4", x.treeOf(4, 153, 1), 2277);
    }

    /** "The automaton has N states (1 to 6), numbered from 0." */
    private static void oneToSixStates() {
        for (int states = 1; states <= 6; states++) {
            BrotherAutomata x = new BrotherAutomata();
            Check.due("reset(" + states + ")", x.reset(states), 2);
            Check.due("state -1 of " + states, x.isReachable(-1), INVALID);
            Check.due("state 0 of " + states, x.isReachable(0), 0);
            Check.due("last state of " + states, x.isReachable(states - 1), 0);
            Check.due("behind the last state of " + states, x.isReachable(states), INVALID);
            Check.due("N is told", x.reset(1), states);
        }
        BrotherAutomata x = new BrotherAutomata();
        Check.due("reset(0)", x.reset(0), INVALID);
        Check.due("reset(7)", x.reset(7), INVALID);
        Check.due("N is still 2", x.reset(2), 2);
    }

    /** "It has at most 16 rules, numbered from 0." */
    private static void atMostSixteenRules() {
        BrotherAutomata x = new BrotherAutomata();
        for (int rule = 0; rule < 16; rule++) {
            Check.due("rule " + rule, x.addRule(rule % 5, 0, 0, 0, rule % 2), rule);
            Check.due("rules", x.ruleCount(), rule + 1);
        }
        for (int symbol = 0; symbol < 5; symbol++) {
            Check.due("a 17th rule, symbol " + symbol, x.addRule(symbol, 0, 0, 0, 0), LIMIT);
        }
        Check.due("a 17th rule with EQUAL", x.addRule(3, 1, 1, 1, 1), LIMIT);
        Check.due("a 17th rule with DIFFERENT", x.addRule(4, 1, 1, 2, 1), LIMIT);
        Check.due("still 16", x.ruleCount(), 16);
        Check.due("rule 16", x.removeRule(16), INVALID);
        Check.due("rule 15", x.removeRule(15), 15);
        Check.due("rule 0", x.removeRule(0), 14);
    }

    private static void roomWhenNoLongerFull() {
        BrotherAutomata x = new BrotherAutomata();
        addConstantRules(x, 16);
        Check.due("removeRule", x.removeRule(7), 15);
        Check.due("room for one", x.addRule(1, 0, 0, 0, 1), 15);
        Check.due("room for one only", x.addRule(1, 0, 0, 0, 1), LIMIT);
        Check.due("undo of the 16th", x.undo(), 4);
        Check.due("room again", x.addRule(1, 0, 0, 0, 0), 15);
        Check.due("full again", x.addRule(1, 0, 0, 0, 0), LIMIT);
        x.removeRule(0);
        Check.due("undo of removeRule fills it", x.undo(), 4);
        Check.due("full by undo", x.addRule(1, 0, 0, 0, 0), LIMIT);
        x.reset(2);
        Check.due("room after reset", x.addRule(1, 0, 0, 0, 0), 0);
    }

    /** "Initially N is 2, no state is final, and there are no rules." */
    private static void initialAutomaton() {
        BrotherAutomata x = new BrotherAutomata();
        Check.due("no rules", x.ruleCount(), 0);
        Check.due("no rule 0", x.removeRule(0), INVALID);
        Check.due("no final state", x.finalStates(), 0);
        Check.due("state 1", x.isReachable(1), 0);
        Check.due("no state 2", x.isReachable(2), INVALID);
        Check.due("set 3", x.treesOfSet(3), 0);
        Check.due("no set 4", x.treesOfSet(4), INVALID);
        Check.due("nothing to undo", x.undo(), MISSING);
        Check.due("N", x.reset(2), 2);
    }

    /** "EQUAL if both children are equal trees, DIFFERENT if they are not equal, ANY always." */
    private static void constraintOnEqualAndDifferent() {
        int[][] due = {{1, 1, 1, 1}, {1, 0, 0, 1}, {0, 1, 1, 0}};
        for (int symbol = 3; symbol <= 4; symbol++) {
            for (int constraint = 0; constraint <= 2; constraint++) {
                BrotherAutomata x = new BrotherAutomata();
                x.addRule(0, 0, 0, 0, 0);
                x.addRule(1, 0, 0, 0, 0);
                x.addRule(symbol, 0, 0, constraint, 1);
                for (int pair = 0; pair < 4; pair++) {
                    int tree = x.treeOf(symbol, pair / 2, pair % 2);
                    String what = "constraint " + constraint + " on tree " + tree;
                    Check.due(what, x.subsetOf(tree), 2 * due[constraint][pair]);
                    Check.due(what + ", runs", x.runCount(tree, 1), due[constraint][pair]);
                }
            }
        }
    }

    /** What a rule asks for is the same in the first place, in the sixteenth, and in those between. */
    private static void rulesInEachPlace() {
        for (int place = 0; place < 16; place++) {
            for (int constraint = 0; constraint <= 2; constraint++) {
                BrotherAutomata x = new BrotherAutomata();
                x.reset(4);
                for (int rule = 0; rule < 16; rule++) {
                    if (rule == place) {
                        x.addRule(3, 0, 1, constraint, 2);
                    } else {
                        x.addRule(rule % 2, 0, 0, 0, rule / 2 % 2);
                    }
                }
                String what = "constraint " + constraint + " in place " + place;
                Check.due(what + ", equal", x.subsetOf(6), constraint == 2 ? 0 : 4);
                Check.due(what + ", different", x.subsetOf(7), constraint == 1 ? 0 : 4);
                Check.due(what + ", a child with no such state", x.subsetOf(x.treeOf(3, 2, 0)), 0);
                Check.due(what + ", a child with no such state", x.subsetOf(x.treeOf(3, 0, 2)), 0);
                Check.due(what + ", another symbol", x.subsetOf(10), 0);
                Check.due(what + ", some tree", x.treesOfSet(4), 2);
            }
        }
    }

    /** Nothing of a rule stays behind in its place when another one takes it. */
    private static void anotherConstraintInTheSamePlace() {
        BrotherAutomata x = new BrotherAutomata();
        x.addRule(0, 0, 0, 0, 0);
        x.addRule(1, 0, 0, 0, 0);
        for (int change = 0; change < 9; change++) {
            x.addRule(4, 0, 0, change / 3, 1);
            Check.due("equal, constraint " + change / 3, x.subsetOf(10), change / 3 == 2 ? 0 : 2);
            x.removeRule(2);
            x.addRule(4, 0, 0, change % 3, 1);
            Check.due("equal, then constraint " + change % 3, x.subsetOf(10), change % 3 == 2 ? 0 : 2);
            Check.due("different, then constraint " + change % 3, x.subsetOf(11), change % 3 == 1 ? 0 : 2);
            x.removeRule(2);
        }
    }

    /** "The subset of a tree is the set of all states to which rules lead from it." */
    private static void subsetEmptyAndFull() {
        BrotherAutomata x = new BrotherAutomata();
        x.reset(6);
        Check.due("no rule", x.subsetOf(0), 0);
        for (int state = 0; state < 6; state++) {
            x.addRule(0, 0, 0, 0, state);
            x.addRule(2, 5 - state, 0, 0, state);
            Check.due("states up to " + state, x.subsetOf(0), (2 << state) - 1);
        }
        Check.due("all states, of all states", x.subsetOf(2), 63);
        Check.due("another constant", x.subsetOf(1), 0);
        Check.due("no state, of no state", x.subsetOf(3), 0);
        Check.due("the highest tree", x.subsetOf(FIRST[7]), 63);
    }

    /** "The automaton accepts a tree if its subset contains a final state." */
    private static void acceptanceByOneFinalState() {
        for (int state = 0; state < 6; state++) {
            BrotherAutomata x = new BrotherAutomata();
            x.reset(6);
            x.addRule(0, 0, 0, 0, 0);
            x.addRule(0, 0, 0, 0, 5);
            x.setFinal(state, true);
            Check.due("final " + state, x.accepts(0), state == 0 || state == 5 ? 1 : 0);
            Check.due("final " + state + ", empty subset", x.accepts(1), 0);
        }
    }

    /** "Two rules with the same content are different rules." */
    private static void runsOfSameRules() {
        BrotherAutomata x = new BrotherAutomata();
        for (int rules = 0; rules < 16; rules++) {
            Check.due(rules + " same rules, runs", x.runCount(0, 1), rules);
            x.addRule(0, 0, 0, 0, 1);
        }
        Check.due("16 same rules, runs", x.runCount(0, 1), 16);
        Check.due("one state", x.subsetOf(0), 2);
        Check.due("one of them goes", x.removeRule(3), 15);
        Check.due("15 same rules, runs", x.runCount(0, 1), 15);
    }

    /** "Only 0, 1, and MANY (which stands for 2 or more) are distinguished." */
    private static void noTreeOneTreeManyTrees() {
        int[] due = {0, 1, 2, 2, 2};
        int[][] pairs = {{0, 0}, {0, 1}, {1, 0}, {1, 1}};
        for (int trees = 0; trees <= 4; trees++) {
            BrotherAutomata x = new BrotherAutomata();
            x.reset(3);
            x.setFinal(2, true);
            x.addRule(0, 0, 0, 0, 0);
            x.addRule(1, 0, 0, 0, 1);
            for (int pair = 0; pair < trees; pair++) {
                x.addRule(3, pairs[pair][0], pairs[pair][1], 0, 2);
            }
            Check.due(trees + " trees lead to 2", x.acceptedCount(3), trees);
            Check.due("exactly " + trees + " trees", x.treesOfSet(4), due[trees]);
        }
        BrotherAutomata x = new BrotherAutomata();
        x.reset(1);
        x.addRule(0, 0, 0, 0, 0);
        Check.due("one tree", x.treesOfSet(1), 1);
        x.addRule(2, 0, 0, 0, 0);
        Check.due("trees without end", x.treesOfSet(1), 2);
    }

    /** "The number of trees of a set S is the number of all trees, of any size, whose subset is S." */
    private static void treesOfAnySize() {
        BrotherAutomata x = new BrotherAutomata();
        x.reset(6);
        x.addRule(0, 0, 0, 0, 0);
        for (int state = 0; state < 5; state++) {
            x.addRule(3, state, state, 1, state + 1);
        }
        x.setFinal(5, true);
        Check.due("one tree of size 63", x.treesOfSet(32), 1);
        Check.due("it is not small", x.acceptedCount(7), 0);
        Check.due("it counts for emptiness", x.isEmpty(), 0);
        Check.due("it counts for the state", x.isReachable(5), 1);
        Check.due("its height", x.leastHeight(), 5);
        x.addRule(4, 5, 5, 2, 0);
        Check.due("no two trees of {5}", x.treesOfSet(1), 1);
        x.addRule(4, 4, 4, 1, 5);
        Check.due("two trees of size 63", x.treesOfSet(32), 2);
        Check.due("a second tree of {0}, made of these", x.treesOfSet(1), 2);
    }

    /** "S is reached if this number is not 0; the empty set can be reached, too." */
    private static void emptySetReachedOrNot() {
        BrotherAutomata x = new BrotherAutomata();
        Check.due("only the empty set", x.reachedSets(), 1);
        Check.due("trees of the empty set", x.treesOfSet(0), 2);
        x = universal(1);
        Check.due("only {0}", x.reachedSets(), 1);
        Check.due("no trees of the empty set", x.treesOfSet(0), 0);
        x.removeRule(1);
        Check.due("{} and {0}", x.reachedSets(), 2);
        Check.due("the constant 1 and what stands above it", x.treesOfSet(0), 2);
    }

    /**
     * Only 2(2(2(0))) is the lowest tree of the empty set, and it is found when all else has been found; but what
     * stands above it has the empty set too. All trees lead to 5, and those that are no such chain to 4.
     */
    private static void emptySetReachedLast() {
        BrotherAutomata x = new BrotherAutomata();
        x.reset(6);
        for (int target = 4; target <= 5; target++) {
            x.addRule(1, 0, 0, 0, target);
            x.addRule(2, 4, 0, 0, target);
            x.addRule(3, 5, 5, 0, target);
            x.addRule(4, 5, 5, 0, target);
        }
        x.addRule(0, 0, 0, 0, 0);
        x.addRule(0, 0, 0, 0, 5);
        x.addRule(2, 0, 0, 0, 1);
        x.addRule(2, 0, 0, 0, 5);
        x.addRule(2, 1, 0, 0, 2);
        x.addRule(2, 1, 0, 0, 5);
        Check.due("2(2(0))", x.treesOfSet(4 + 32), 1);
        Check.due("2(2(2(0))) and what stands above it", x.treesOfSet(0), 2);
        Check.due("{0, 5}, {1, 5}, {2, 5}, {4, 5} and {}", x.reachedSets(), 5);
        Check.due("not complete", x.isComplete(), 0);
    }

    /** "The automaton is empty if it accepts no tree at all." */
    private static void emptyOrOneTree() {
        BrotherAutomata x = universal(2);
        Check.due("all trees", x.isEmpty(), 0);
        x.setFinal(0, false);
        Check.due("no final state", x.isEmpty(), 1);
        x.setFinal(1, true);
        Check.due("a final state that no rule leads to", x.isEmpty(), 1);
        x.addRule(3, 1, 1, 0, 1);
        Check.due("a rule that only leads from its own target", x.isEmpty(), 1);
        x.addRule(0, 0, 0, 0, 1);
        Check.due("a tree", x.isEmpty(), 0);
        x.reset(2);
        x.setFinal(0, true);
        x.setFinal(1, true);
        Check.due("final states without rules", x.isEmpty(), 1);
        x.addRule(1, 0, 0, 0, 1);
        Check.due("exactly one tree", x.isEmpty(), 0);
        Check.due("exactly one tree", x.treesOfSet(2), 1);
    }

    /** "It is universal if it accepts all trees." */
    private static void universalOrAllButOneTree() {
        BrotherAutomata x = new BrotherAutomata();
        x.addRule(0, 0, 0, 0, 1);
        x.addRule(1, 0, 0, 0, 0);
        x.addRule(2, 0, 0, 0, 0);
        x.addRule(2, 1, 0, 0, 0);
        for (int pair = 0; pair < 4; pair++) {
            x.addRule(3, pair / 2, pair % 2, 0, 0);
            x.addRule(4, pair / 2, pair % 2, 0, 0);
        }
        Check.due("no final state", x.isUniversal(), 0);
        x.setFinal(1, true);
        Check.due("one tree", x.isUniversal(), 0);
        x.swapStates(0, 1);
        x.setFinal(0, false);
        x.setFinal(1, true);
        Check.due("all trees but one", x.isUniversal(), 0);
        Check.due("the one", x.acceptedCount(1), 1);
        x.setFinal(0, true);
        Check.due("all trees", x.isUniversal(), 1);
    }

    /** "It is complete if the empty set is not reached", by any tree, however great. */
    private static void completeAndUniversalBeyondSmallTrees() {
        BrotherAutomata x = new BrotherAutomata();
        x.reset(3);
        allTreesButOnesOfSizeEight(x);
        x.setFinal(0, true);
        for (int size = 1; size <= 7; size++) {
            Check.due("all trees of size " + size, x.acceptedCount(size), x.treeCount(size));
        }
        Check.due("not universal", x.isUniversal(), 0);
        Check.due("not complete", x.isComplete(), 0);
        x.removeRule(2);
        x.addRule(2, 0, 0, 0, 0);
        Check.due("universal", x.isUniversal(), 1);
        Check.due("complete", x.isComplete(), 1);
        x.setFinal(0, false);
        Check.due("not universal without final states", x.isUniversal(), 0);
        Check.due("complete without final states", x.isComplete(), 1);
    }

    /**
     * State 1 is for what is not 3(s, s), state 2 for what is not 3(t, t) with t = 3(s, s), and state 0 for what
     * is not 2(u) with u = 3(t, t), which has eight nodes or more. Rule 2 is the one that leaves out 2(u).
     */
    private static void allTreesButOnesOfSizeEight(BrotherAutomata x) {
        for (int symbol = 0; symbol < 5; symbol++) {
            x.addRule(symbol, symbol == 2 ? 2 : 0, 0, 0, 0);
        }
        for (int state = 1; state <= 2; state++) {
            x.addRule(0, 0, 0, 0, state);
            x.addRule(1, 0, 0, 0, state);
            x.addRule(2, 2, 0, 0, state);
            x.addRule(4, 0, 0, 0, state);
            x.addRule(3, 0, 0, 2, state);
        }
        x.addRule(3, 1, 1, 1, 2);
    }

    /** "..and deterministic if each reached set has at most one element." */
    private static void deterministicWithAtMostOneElement() {
        BrotherAutomata x = new BrotherAutomata();
        x.reset(6);
        Check.due("sets without elements", x.isDeterministic(), 1);
        x.addRule(0, 0, 0, 0, 5);
        Check.due("sets with one element", x.isDeterministic(), 1);
        x.addRule(2, 4, 0, 0, 0);
        x.addRule(2, 4, 0, 0, 1);
        Check.due("two elements, not reached", x.isDeterministic(), 1);
        x.addRule(0, 0, 0, 0, 0);
        Check.due("two elements", x.isDeterministic(), 0);
        x.undo();
        Check.due("one element again", x.isDeterministic(), 1);
        x.reset(6);
        x.addRule(0, 0, 0, 0, 0);
        for (int state = 0; state < 4; state++) {
            x.addRule(4, state, state, 1, state + 1);
        }
        Check.due("a chain", x.isDeterministic(), 1);
        x.addRule(4, 3, 3, 1, 5);
        Check.due("two elements for a tree of size 31", x.isDeterministic(), 0);
    }

    /** "An object is used for at most 512 calls after it has been made." */
    private static void fiveHundredAndTwelveCalls() {
        BrotherAutomata x = new BrotherAutomata();
        for (int round = 0; round < 102; round++) {
            Check.due("addRule", x.addRule(0, 0, 0, 0, round % 2), 0);
            Check.due("subsetOf", x.subsetOf(0), 1 << round % 2);
            Check.due("reachedSets", x.reachedSets(), 2);
            Check.due("undo", x.undo(), 0);
            Check.due("ruleCount", x.ruleCount(), 0);
        }
        Check.due("call 511", x.undo(), MISSING);
        Check.due("call 512", x.treesOfSet(0), 2);
    }

    private static void addConstantRules(BrotherAutomata x, int rules) {
        for (int rule = 0; rule < rules; rule++) {
            x.addRule(0, 0, 0, 0, 0);
        }
    }

    /** All trees lead to state 0, which is final. */
    private static BrotherAutomata universal(int states) {
        BrotherAutomata x = new BrotherAutomata();
        x.reset(states);
        for (int symbol = 0; symbol < 5; symbol++) {
            x.addRule(symbol, 0, 0, 0, 0);
        }
        x.setFinal(0, true);
        return x;
    }
}

/** What the description says of edits, of undo and of errors: each sentence with a test of its own. */
final class HistoryEdgesTest {
    private static final int INVALID = -1;
    private static final int LIMIT = -2;
    private static final int MISSING = -3;
    private static final int KINDS = 4;

    private HistoryEdgesTest() {
    }

    public static void main(String[] args) {
        fourKindsAreEdits();
        upToFiveCanBeUndone();
        sixthIsOutOfReach();
        manyEditsAndUndos();
        longestRunOfEdits();
        undoneIsNotUndoneAgain();
        editAfterUndo();
        editThatChangesNothingIsAnEdit();
        editThatChangesNothingDropsTheOldest();
        nothingAfterReset();
        onlyEditsSinceReset();
        questionsAreNoEdits();
        invalidRatherThanLimit();
        invalidRatherThanNotFound();
        limitStandsAlone();
        refusedEditsChangeNothing();
        refusedByFullAutomaton();
        refusedUndoChangesNothing();
        refusedQuestionsChangeNothing();
        refusedOnNewObject();
        Check.close("HistoryEdgesTest");
    }

    /** Three states, rules of every symbol and constraint, finals, and exactly five edits to undo. */
    private static void makeRich(BrotherAutomata x) {
        x.reset(3);
        x.addRule(0, 0, 0, 0, 0);
        x.addRule(1, 0, 0, 0, 1);
        x.addRule(2, 0, 0, 0, 2);
        x.addRule(2, 1, 0, 0, 0);
        x.addRule(3, 0, 1, 0, 1);
        x.addRule(3, 0, 0, 1, 2);
        x.setFinal(2, true);
        x.addRule(4, 0, 0, 2, 1);
        x.swapStates(1, 2);
        x.removeRule(3);
        x.setFinal(0, true);
        x.addRule(4, 2, 2, 1, 0);
    }

    private static void makeFull(BrotherAutomata x) {
        makeRich(x);
        for (int rule = x.ruleCount(); rule < 16; rule++) {
            x.addRule(rule % 5, 0, 0, 0, rule % 3);
        }
    }

    /** An edit of each kind that changes something; undo must bring back what was there. */
    private static void edit(BrotherAutomata x, int kind) {
        if (kind == 0) {
            x.setFinal(1, (x.finalStates() & 2) == 0);
        } else if (kind == 1) {
            x.addRule(1, 0, 0, 0, 2);
        } else if (kind == 2) {
            x.removeRule(0);
        } else {
            x.swapStates(0, 1);
        }
    }

    /** "setFinal, addRule, removeRule and swapStates are edits." */
    private static void fourKindsAreEdits() {
        for (int kind = 0; kind < KINDS; kind++) {
            final int tried = kind;
            BrotherAutomata x = new BrotherAutomata();
            x.reset(3);
            for (int rule = 0; rule < 3; rule++) {
                x.addRule(0, 0, 0, 0, rule);
            }
            edit(x, kind);
            Check.due("kind " + kind + " is an edit", x.undo(), 3);
            Check.due("rules", x.ruleCount(), 3);
            Check.due("subset", x.subsetOf(0), 7);
            Check.due("finals", x.finalStates(), 0);
            Twins.stayAlike("kind " + kind + " and undo", HistoryEdgesTest::makeShort, twin -> {
                edit(twin, tried);
                twin.undo();
            });
        }
    }

    /** So few edits that one more drops none of them. */
    private static void makeShort(BrotherAutomata x) {
        x.reset(3);
        x.addRule(0, 0, 0, 0, 0);
        x.addRule(2, 0, 0, 0, 1);
        x.addRule(3, 0, 1, 2, 2);
        x.setFinal(0, true);
    }

    /** "The last 5 edits can be undone." */
    private static void upToFiveCanBeUndone() {
        for (int edits = 0; edits <= 5; edits++) {
            BrotherAutomata x = new BrotherAutomata();
            for (int edit = 0; edit < edits; edit++) {
                x.addRule(0, 0, 0, 0, 0);
            }
            for (int left = edits - 1; left >= 0; left--) {
                Check.due("of " + edits + " edits, undo", x.undo(), left);
                Check.due("of " + edits + " edits, rules", x.ruleCount(), left);
            }
            Check.due("after " + edits + " undos", x.undo(), MISSING);
            Check.due("no rules", x.ruleCount(), 0);
        }
    }

    private static void sixthIsOutOfReach() {
        for (int edits = 6; edits <= 16; edits++) {
            BrotherAutomata x = new BrotherAutomata();
            for (int edit = 0; edit < edits; edit++) {
                x.addRule(0, 0, 0, 0, 0);
            }
            for (int left = 4; left >= 0; left--) {
                Check.due("of " + edits + " edits, undo", x.undo(), left);
                Check.due("of " + edits + " edits, runs", x.runCount(0, 0), edits - 5 + left);
            }
            Check.due("of " + edits + " edits, a sixth undo", x.undo(), MISSING);
            Check.due("rules that stay", x.ruleCount(), edits - 5);
        }
    }

    /** The five places are used in turn: here each of them is once the oldest and once the latest. */
    private static void manyEditsAndUndos() {
        for (int start = 0; start < 6; start++) {
            BrotherAutomata x = new BrotherAutomata();
            x.reset(6);
            for (int edit = 0; edit < start; edit++) {
                x.setFinal(5, edit % 2 == 0);
            }
            int before = x.finalStates();
            for (int state = 0; state < 5; state++) {
                x.setFinal(state, true);
            }
            for (int left = 4; left >= 0; left--) {
                Check.due(start + " edits before, undo", x.undo(), left);
                Check.due(start + " edits before, finals", x.finalStates(), before + (1 << left) - 1);
            }
            Check.due(start + " edits before, no more", x.undo(), MISSING);
            Check.due(start + " edits before, finals", x.finalStates(), before);
        }
    }

    private static void longestRunOfEdits() {
        BrotherAutomata x = new BrotherAutomata();
        for (int edit = 0; edit < 506; edit++) {
            x.setFinal(1, edit % 3 == 0);
        }
        for (int left = 4; left >= 0; left--) {
            int latest = 500 + left;
            Check.due("undo after 506 edits", x.undo(), left);
            Check.due("finals", x.finalStates(), latest % 3 == 0 ? 2 : 0);
        }
        Check.due("call 512", x.undo(), MISSING);
    }

    /** "Undoes the latest edit that has not been undone." */
    private static void undoneIsNotUndoneAgain() {
        BrotherAutomata x = new BrotherAutomata();
        x.setFinal(0, true);
        x.setFinal(1, true);
        Check.due("the latest one", x.undo(), 1);
        Check.due("finals", x.finalStates(), 1);
        Check.due("not the same one again", x.undo(), 0);
        Check.due("finals", x.finalStates(), 0);
        Check.due("undo itself is no edit", x.undo(), MISSING);
        Check.due("finals", x.finalStates(), 0);
    }

    private static void editAfterUndo() {
        BrotherAutomata x = new BrotherAutomata();
        x.reset(6);
        for (int state = 0; state < 5; state++) {
            x.setFinal(state, true);
        }
        Check.due("undo of 4", x.undo(), 4);
        Check.due("undo of 3", x.undo(), 3);
        x.setFinal(5, true);
        Check.due("finals", x.finalStates(), 32 + 7);
        Check.due("undo of 5", x.undo(), 3);
        Check.due("finals", x.finalStates(), 7);
        Check.due("undo of 2", x.undo(), 2);
        Check.due("finals", x.finalStates(), 3);
        Check.due("undo of 1", x.undo(), 1);
        Check.due("undo of 0", x.undo(), 0);
        Check.due("no more", x.undo(), MISSING);
        x.setFinal(4, true);
        Check.due("an edit after the last undo", x.undo(), 0);
    }

    /** "An edit that changes nothing is an edit, too." */
    private static void editThatChangesNothingIsAnEdit() {
        BrotherAutomata x = new BrotherAutomata();
        x.setFinal(1, false);
        Check.due("not final, still not final", x.undo(), 0);
        x.setFinal(1, true);
        x.setFinal(1, true);
        Check.due("final, still final", x.undo(), 1);
        Check.due("final", x.finalStates(), 2);
        x.swapStates(0, 0);
        Check.due("a state with itself", x.undo(), 1);
        Check.due("final", x.finalStates(), 2);
        x.reset(3);
        x.addRule(0, 0, 0, 0, 0);
        x.swapStates(1, 2);
        Check.due("states of no rule", x.undo(), 1);
        Check.due("the rule stands", x.ruleCount(), 1);
        x.undo();
        x.swapStates(0, 2);
        Check.due("no rules at all", x.undo(), 0);
    }

    private static void editThatChangesNothingDropsTheOldest() {
        BrotherAutomata x = new BrotherAutomata();
        x.addRule(0, 0, 0, 0, 0);
        x.setFinal(0, false);
        x.setFinal(1, false);
        x.swapStates(0, 0);
        x.swapStates(1, 1);
        x.setFinal(0, false);
        for (int left = 4; left >= 0; left--) {
            Check.due("undo of what changed nothing", x.undo(), left);
        }
        Check.due("the rule is out of reach", x.undo(), MISSING);
        Check.due("the rule stands", x.ruleCount(), 1);
    }

    /** "After reset nothing can be undone." */
    private static void nothingAfterReset() {
        for (int states = 1; states <= 6; states++) {
            BrotherAutomata x = new BrotherAutomata();
            makeRich(x);
            x.reset(states);
            Check.due("after reset(" + states + ")", x.undo(), MISSING);
            Check.due("no rules", x.ruleCount(), 0);
            Check.due("no finals", x.finalStates(), 0);
            Check.due("N", x.reset(3), states);
            Check.due("after a second reset", x.undo(), MISSING);
        }
    }

    private static void onlyEditsSinceReset() {
        BrotherAutomata x = new BrotherAutomata();
        makeRich(x);
        x.reset(4);
        x.setFinal(3, true);
        x.addRule(1, 0, 0, 0, 3);
        Check.due("second edit since", x.undo(), 1);
        Check.due("first edit since", x.undo(), 0);
        Check.due("none before", x.undo(), MISSING);
        Check.due("no rules", x.ruleCount(), 0);
        Check.due("no finals", x.finalStates(), 0);
        Check.due("N is not undone", x.reset(1), 4);
    }

    /** Only the four kinds are edits: questions can be asked in between. */
    private static void questionsAreNoEdits() {
        Twins.stayAlike("questions", HistoryEdgesTest::makeRich, x -> {
            x.ruleCount();
            x.finalStates();
            x.treeCount(7);
            x.treeOf(3, 40, 0);
            x.symbolOf(2277);
            x.childOf(2277, 1);
            x.sizeOf(2277);
            x.heightOf(2277);
            x.subsetOf(2277);
            x.accepts(2277);
            x.runCount(2277, 2);
            x.acceptedCount(7);
            x.acceptedTree(7, 0);
            x.treesOfSet(7);
            x.reachedSets();
            x.isReachable(2);
            x.isEmpty();
            x.isUniversal();
            x.isComplete();
            x.isDeterministic();
            x.leastHeight();
        });
    }

    /** "INVALID_ARGUMENT is returned rather than LIMIT_REACHED". */
    private static void invalidRatherThanLimit() {
        BrotherAutomata x = new BrotherAutomata();
        makeFull(x);
        Check.due("full", x.addRule(3, 2, 2, 2, 2), LIMIT);
        Check.due("full, symbol -1", x.addRule(-1, 0, 0, 0, 0), INVALID);
        Check.due("full, symbol 5", x.addRule(5, 0, 0, 0, 0), INVALID);
        Check.due("full, first -1", x.addRule(3, -1, 0, 0, 0), INVALID);
        Check.due("full, first 3", x.addRule(3, 3, 0, 0, 0), INVALID);
        Check.due("full, second -1", x.addRule(3, 0, -1, 0, 0), INVALID);
        Check.due("full, second 3", x.addRule(3, 0, 3, 0, 0), INVALID);
        Check.due("full, constraint -1", x.addRule(3, 0, 0, -1, 0), INVALID);
        Check.due("full, constraint 3", x.addRule(3, 0, 0, 3, 0), INVALID);
        Check.due("full, target -1", x.addRule(3, 0, 0, 0, -1), INVALID);
        Check.due("full, target 3", x.addRule(3, 0, 0, 0, 3), INVALID);
        Check.due("full, constant with first", x.addRule(0, 1, 0, 0, 0), INVALID);
        Check.due("full, constant with second", x.addRule(1, 0, 1, 0, 0), INVALID);
        Check.due("full, unary with second", x.addRule(2, 0, 1, 0, 0), INVALID);
        Check.due("full, unary with EQUAL", x.addRule(2, 0, 0, 1, 0), INVALID);
        Check.due("full, constant with DIFFERENT", x.addRule(0, 0, 0, 2, 0), INVALID);
        Check.due("too great", x.treeOf(3, 2277, 2277), LIMIT);
        Check.due("too great, second -1", x.treeOf(3, 2277, -1), INVALID);
        Check.due("too great, second 2278", x.treeOf(3, 2277, 2278), INVALID);
        Check.due("too great, first -1", x.treeOf(3, -1, 2277), INVALID);
        Check.due("too great, first 2278", x.treeOf(3, 2278, 2277), INVALID);
        Check.due("too great, symbol 5", x.treeOf(5, 2277, 2277), INVALID);
        Check.due("too great, unary with second", x.treeOf(2, 2277, 1), INVALID);
        Check.due("too great, constant", x.treeOf(0, 2277, 0), INVALID);
    }

    /** INVALID_ARGUMENT goes before NOT_FOUND, as it goes before LIMIT_REACHED, which goes before that. */
    private static void invalidRatherThanNotFound() {
        BrotherAutomata x = new BrotherAutomata();
        Check.due("no child", x.childOf(0, 1), MISSING);
        Check.due("no child, index 2", x.childOf(0, 2), INVALID);
        Check.due("no child, index -1", x.childOf(0, -1), INVALID);
        Check.due("no tree, no child", x.childOf(2278, 1), INVALID);
        Check.due("no tree, no child", x.childOf(-1, 1), INVALID);
        Check.due("no tree, index 2", x.childOf(2278, 2), INVALID);
        Check.due("none accepted", x.acceptedTree(7, 0), MISSING);
        Check.due("none accepted, index -1", x.acceptedTree(7, -1), INVALID);
        Check.due("none accepted, size 0", x.acceptedTree(0, 0), INVALID);
        Check.due("none accepted, size 8", x.acceptedTree(8, 0), INVALID);
        Check.due("none accepted, size 8, index -1", x.acceptedTree(8, -1), INVALID);
    }

    /** No call can answer both LIMIT_REACHED and NOT_FOUND: the two that have a limit find all else. */
    private static void limitStandsAlone() {
        BrotherAutomata x = new BrotherAutomata();
        Check.due("a tree that is small is found", x.treeOf(4, 153, 1), 2277);
        Check.due("one that is not is a matter of the limit", x.treeOf(4, 153, 2), LIMIT);
        makeFull(x);
        Check.due("a full automaton", x.addRule(0, 0, 0, 0, 0), LIMIT);
    }

    /** "A call that returns an error changes nothing and is no edit." */
    private static void refusedEditsChangeNothing() {
        Twins.stayAlike("refused edits", HistoryEdgesTest::makeRich, x -> {
            Check.due("reset(0)", x.reset(0), INVALID);
            Check.due("reset(7)", x.reset(7), INVALID);
            Check.due("setFinal(-1)", x.setFinal(-1, true), INVALID);
            Check.due("setFinal(3)", x.setFinal(3, true), INVALID);
            Check.due("setFinal(3)", x.setFinal(3, false), INVALID);
            Check.due("setFinal(32)", x.setFinal(32, false), INVALID);
            Check.due("setFinal(33)", x.setFinal(33, true), INVALID);
            Check.due("addRule, symbol", x.addRule(5, 0, 0, 0, 0), INVALID);
            Check.due("addRule, first", x.addRule(2, 3, 0, 0, 0), INVALID);
            Check.due("addRule, second", x.addRule(2, 0, 1, 0, 0), INVALID);
            Check.due("addRule, constraint", x.addRule(2, 0, 0, 1, 0), INVALID);
            Check.due("addRule, target", x.addRule(2, 0, 0, 0, 3), INVALID);
            Check.due("removeRule(-1)", x.removeRule(-1), INVALID);
            Check.due("removeRule behind the last", x.removeRule(x.ruleCount()), INVALID);
            Check.due("swapStates(0, 3)", x.swapStates(0, 3), INVALID);
            Check.due("swapStates(3, 0)", x.swapStates(3, 0), INVALID);
            Check.due("swapStates(-1, -1)", x.swapStates(-1, -1), INVALID);
        });
    }

    private static void refusedByFullAutomaton() {
        Twins.stayAlike("refused rules", HistoryEdgesTest::makeFull, x -> {
            for (int symbol = 0; symbol < 5; symbol++) {
                Check.due("a 17th rule", x.addRule(symbol, 0, 0, 0, 2), LIMIT);
            }
        });
    }

    private static void refusedUndoChangesNothing() {
        Twins.stayAlike("refused undo", x -> {
            makeRich(x);
            for (int undo = 0; undo < 5; undo++) {
                x.undo();
            }
        }, x -> {
            for (int undo = 0; undo < 7; undo++) {
                Check.due("no more", x.undo(), MISSING);
            }
        });
        BrotherAutomata x = new BrotherAutomata();
        Check.due("none", x.undo(), MISSING);
        Check.due("none", x.undo(), MISSING);
        x.setFinal(0, true);
        x.setFinal(1, true);
        Check.due("refused undos do not count", x.undo(), 1);
        Check.due("refused undos do not count", x.undo(), 0);
    }

    private static void refusedQuestionsChangeNothing() {
        Twins.stayAlike("refused questions", HistoryEdgesTest::makeRich, x -> {
            Check.due("treeCount", x.treeCount(8), INVALID);
            Check.due("treeOf", x.treeOf(3, 2278, 0), INVALID);
            Check.due("treeOf", x.treeOf(3, 2277, 0), LIMIT);
            Check.due("symbolOf", x.symbolOf(2278), INVALID);
            Check.due("childOf", x.childOf(0, 2), INVALID);
            Check.due("childOf", x.childOf(0, 0), MISSING);
            Check.due("sizeOf", x.sizeOf(2278), INVALID);
            Check.due("heightOf", x.heightOf(2278), INVALID);
            Check.due("subsetOf", x.subsetOf(2278), INVALID);
            Check.due("accepts", x.accepts(2278), INVALID);
            Check.due("runCount", x.runCount(2278, 0), INVALID);
            Check.due("runCount", x.runCount(0, 3), INVALID);
            Check.due("acceptedCount", x.acceptedCount(8), INVALID);
            Check.due("acceptedTree", x.acceptedTree(8, 0), INVALID);
            Check.due("acceptedTree", x.acceptedTree(1, 2), MISSING);
            Check.due("treesOfSet", x.treesOfSet(8), INVALID);
            Check.due("isReachable", x.isReachable(3), INVALID);
        });
        Twins.stayAlike("no height", x -> x.addRule(0, 0, 0, 0, 0),
                x -> Check.due("leastHeight", x.leastHeight(), MISSING));
    }

    private static void refusedOnNewObject() {
        Twins.stayAlike("refused on a new object", x -> { }, x -> {
            Check.due("reset(0)", x.reset(0), INVALID);
            Check.due("setFinal(2)", x.setFinal(2, true), INVALID);
            Check.due("addRule", x.addRule(0, 0, 0, 0, 2), INVALID);
            Check.due("removeRule(0)", x.removeRule(0), INVALID);
            Check.due("swapStates(1, 2)", x.swapStates(1, 2), INVALID);
            Check.due("undo()", x.undo(), MISSING);
        });
    }
}

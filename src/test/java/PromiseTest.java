/** Each promise of the document on its own: ordinary inputs, the edges that are named, wrong inputs. */
final class PromiseTest {
    private static final int INVALID = -1;
    private static final int LIMIT = -2;
    private static final int MISSING = -3;
    private static final int[] FAR_OUT = {-1, Integer.MIN_VALUE, Integer.MAX_VALUE, 1 << 16, -(1 << 20)};

    private PromiseTest() {
    }

    public static void main(String[] args) {
        promise1NewObject();
        promise2Reset();
        promise2ResetAndRunsOfBefore();
        promise3SetFinal();
        promise4AddRule();
        promise4AddRuleWrong();
        promise5RemoveRule();
        promise6SwapStates();
        promise6SwapOfConstants();
        promise7RuleCount();
        promise8FinalStates();
        promise9TreeCount();
        promise10TreeOf();
        promise10To14AllTrees();
        promise11SymbolOf();
        promise12ChildOf();
        promise13SizeOf();
        promise14HeightOf();
        promise15SubsetOf();
        promise15SubsetWithConstraints();
        promise16Accepts();
        promise17RunCount();
        promise17RunCountGreat();
        promise18AcceptedCount();
        promise19AcceptedTree();
        promise20TreesOfSet();
        promise20ExactlyOneTree();
        promise21ReachedSets();
        promise22IsReachable();
        promise23IsEmpty();
        promise24IsUniversal();
        promise20To27WithSixStates();
        promise25IsComplete();
        promise26IsDeterministic();
        promise27LeastHeight();
        promise27LateHeight();
        promise28Undo();
        promise28UndoEachKind();
        promise28UndoThenEdit();
        errorsAreNoEdits();
        orderOfErrors();
        objectsAreApart();
        Check.close("PromiseTest");
    }

    private static void promise1NewObject() {
        BrotherAutomata x = new BrotherAutomata();
        Check.due("1 ruleCount", x.ruleCount(), 0);
        Check.due("1 finalStates", x.finalStates(), 0);
        Check.due("1 undo", x.undo(), MISSING);
        Check.due("1 isReachable(1)", x.isReachable(1), 0);
        Check.due("1 isReachable(2)", x.isReachable(2), INVALID);
        Check.due("1 reachedSets", x.reachedSets(), 1);
        Check.due("1 treesOfSet(0)", x.treesOfSet(0), 2);
        Check.due("1 subsetOf(2277)", x.subsetOf(2277), 0);
        Check.due("1 reset", x.reset(2), 2);
    }

    private static void promise2Reset() {
        BrotherAutomata x = new BrotherAutomata();
        Check.due("2 reset(6)", x.reset(6), 2);
        Check.due("2 setFinal(5)", x.setFinal(5, true), 1);
        Check.due("2 addRule", x.addRule(0, 0, 0, 0, 5), 0);
        Check.due("2 reset(0)", x.reset(0), INVALID);
        Check.due("2 reset(7)", x.reset(7), INVALID);
        for (int far : FAR_OUT) {
            Check.due("2 reset far out", x.reset(far), INVALID);
        }
        Check.due("2 rule stands", x.ruleCount(), 1);
        Check.due("2 final stands", x.finalStates(), 32);
        Check.due("2 isEmpty", x.isEmpty(), 0);
        Check.due("2 reset(6) again", x.reset(6), 6);
        Check.due("2 no rule", x.ruleCount(), 0);
        Check.due("2 no final", x.finalStates(), 0);
        Check.due("2 nothing to undo", x.undo(), MISSING);
        Check.due("2 isEmpty", x.isEmpty(), 1);
        Check.due("2 reset(1)", x.reset(1), 6);
        Check.due("2 only one state", x.setFinal(1, true), INVALID);
        Check.due("2 treesOfSet(2)", x.treesOfSet(2), INVALID);
        Check.due("2 reset(3)", x.reset(3), 1);
    }

    /** The subsets of before, with states that are no longer there, must not be seen by the new rules. */
    private static void promise2ResetAndRunsOfBefore() {
        BrotherAutomata x = new BrotherAutomata();
        x.reset(6);
        x.addRule(0, 0, 0, 0, 5);
        x.addRule(1, 0, 0, 0, 4);
        Check.due("2 subsetOf(0)", x.subsetOf(0), 32);
        Check.due("2 subsetOf(1)", x.subsetOf(1), 16);
        Check.due("2 treesOfSet(32)", x.treesOfSet(32), 1);
        x.reset(2);
        Check.due("2 subsetOf(0) without rules", x.subsetOf(0), 0);
        x.addRule(0, 0, 0, 0, 1);
        x.addRule(1, 0, 0, 0, 0);
        Check.due("2 subsetOf(0) anew", x.subsetOf(0), 2);
        Check.due("2 subsetOf(1) anew", x.subsetOf(1), 1);
        Check.due("2 reachedSets anew", x.reachedSets(), 3);
        x.reset(6);
        x.addRule(0, 0, 0, 0, 5);
        Check.due("2 subsetOf(0) with six states", x.subsetOf(0), 32);
        x.reset(2);
        x.addRule(0, 0, 0, 0, 1);
        Check.due("2 subsetOf(0) with two states", x.subsetOf(0), 2);
    }

    private static void promise3SetFinal() {
        BrotherAutomata x = new BrotherAutomata();
        x.reset(3);
        Check.due("3 setFinal(2, true)", x.setFinal(2, true), 1);
        Check.due("3 setFinal(0, true)", x.setFinal(0, true), 2);
        Check.due("3 setFinal(0, true) again", x.setFinal(0, true), 2);
        Check.due("3 finalStates", x.finalStates(), 5);
        Check.due("3 setFinal(1, false)", x.setFinal(1, false), 2);
        Check.due("3 setFinal(2, false)", x.setFinal(2, false), 1);
        Check.due("3 finalStates", x.finalStates(), 1);
        Check.due("3 setFinal(3)", x.setFinal(3, true), INVALID);
        for (int far : FAR_OUT) {
            Check.due("3 setFinal far out", x.setFinal(far, true), INVALID);
            Check.due("3 setFinal far out", x.setFinal(far, false), INVALID);
        }
        Check.due("3 five edits", x.undo(), 4);
    }

    private static void promise4AddRule() {
        BrotherAutomata x = new BrotherAutomata();
        x.reset(3);
        Check.due("4 constant", x.addRule(0, 0, 0, 0, 2), 0);
        Check.due("4 constant", x.addRule(1, 0, 0, 0, 1), 1);
        Check.due("4 unary", x.addRule(2, 2, 0, 0, 0), 2);
        Check.due("4 binary", x.addRule(3, 2, 1, 0, 0), 3);
        Check.due("4 binary, EQUAL", x.addRule(4, 2, 2, 1, 1), 4);
        Check.due("4 binary, DIFFERENT", x.addRule(4, 2, 1, 2, 2), 5);
        Check.due("4 tree 0", x.subsetOf(0), 4);
        Check.due("4 tree 1", x.subsetOf(1), 2);
        Check.due("4 tree 2(0)", x.subsetOf(2), 1);
        Check.due("4 tree 3(0,1)", x.subsetOf(7), 1);
        Check.due("4 tree 3(1,0)", x.subsetOf(8), 0);
        Check.due("4 tree 4(0,0)", x.subsetOf(10), 2);
        Check.due("4 tree 4(0,1)", x.subsetOf(11), 4);
        for (int rule = 6; rule < 16; rule++) {
            Check.due("4 up to 16 rules", x.addRule(0, 0, 0, 0, 2), rule);
        }
        Check.due("4 a 17th rule", x.addRule(0, 0, 0, 0, 2), LIMIT);
        Check.due("4 ruleCount", x.ruleCount(), 16);
        Check.due("4 removeRule", x.removeRule(15), 15);
        Check.due("4 room again", x.addRule(3, 2, 2, 2, 2), 15);
    }

    private static void promise4AddRuleWrong() {
        BrotherAutomata x = new BrotherAutomata();
        for (int symbol = 0; symbol < 5; symbol++) {
            for (int far : FAR_OUT) {
                Check.due("4 first " + symbol, x.addRule(symbol, far, 0, 0, 0), INVALID);
                Check.due("4 second " + symbol, x.addRule(symbol, 0, far, 0, 0), INVALID);
                Check.due("4 constraint " + symbol, x.addRule(symbol, 0, 0, far, 0), INVALID);
                Check.due("4 target " + symbol, x.addRule(symbol, 0, 0, 0, far), INVALID);
            }
            Check.due("4 first is no state", x.addRule(symbol, 2, 0, 0, 0), INVALID);
            Check.due("4 second is no state", x.addRule(symbol, 0, 2, 0, 0), INVALID);
            Check.due("4 constraint 3", x.addRule(symbol, 0, 0, 3, 0), INVALID);
            Check.due("4 target is no state", x.addRule(symbol, 0, 0, 0, 2), INVALID);
        }
        for (int far : FAR_OUT) {
            Check.due("4 symbol", x.addRule(far, 0, 0, 0, 0), INVALID);
        }
        Check.due("4 symbol 5", x.addRule(5, 0, 0, 0, 0), INVALID);
        Check.due("4 constant with first", x.addRule(1, 1, 0, 0, 0), INVALID);
        Check.due("4 constant with second", x.addRule(0, 0, 1, 0, 0), INVALID);
        Check.due("4 unary with second", x.addRule(2, 0, 1, 0, 0), INVALID);
        for (int symbol = 0; symbol < 3; symbol++) {
            Check.due("4 EQUAL without brothers", x.addRule(symbol, 0, 0, 1, 0), INVALID);
            Check.due("4 DIFFERENT without brothers", x.addRule(symbol, 0, 0, 2, 0), INVALID);
        }
        Check.due("4 no rule", x.ruleCount(), 0);
        Check.due("4 no edit", x.undo(), MISSING);
    }

    private static void promise5RemoveRule() {
        BrotherAutomata x = new BrotherAutomata();
        Check.due("5 none to remove", x.removeRule(0), INVALID);
        x.reset(4);
        x.addRule(0, 0, 0, 0, 0);
        x.addRule(0, 0, 0, 0, 1);
        x.addRule(3, 0, 2, 1, 2);
        x.addRule(0, 0, 0, 0, 3);
        x.addRule(4, 3, 3, 2, 3);
        Check.due("5 removeRule(5)", x.removeRule(5), INVALID);
        Check.due("5 removeRule(1)", x.removeRule(1), 4);
        Check.due("5 subset without it", x.subsetOf(0), 9);
        Check.due("5 removeRule(1) is the one behind", x.removeRule(1), 3);
        Check.due("5 removeRule(1) again", x.removeRule(1), 2);
        Check.due("5 subset", x.subsetOf(0), 1);
        Check.due("5 removeRule(1), the last one", x.removeRule(1), 1);
        Check.due("5 removeRule(1), none", x.removeRule(1), INVALID);
        for (int far : FAR_OUT) {
            Check.due("5 far out", x.removeRule(far), INVALID);
        }
        Check.due("5 removeRule(0)", x.removeRule(0), 0);
        Check.due("5 subset without rules", x.subsetOf(0), 0);
        BrotherAutomata full = new BrotherAutomata();
        for (int rule = 0; rule < 16; rule++) {
            full.addRule(0, 0, 0, 0, rule == 15 ? 1 : 0);
        }
        Check.due("5 first of sixteen", full.removeRule(0), 15);
        Check.due("5 all moved down", full.runCount(0, 1), 1);
        Check.due("5 the last one now", full.removeRule(14), 14);
        Check.due("5 it was the one that moved", full.subsetOf(0), 1);
    }

    private static void promise6SwapStates() {
        BrotherAutomata x = new BrotherAutomata();
        x.reset(4);
        x.addRule(0, 0, 0, 0, 1);
        x.addRule(1, 0, 0, 0, 2);
        x.addRule(2, 1, 0, 0, 3);
        x.addRule(3, 2, 1, 2, 0);
        x.addRule(4, 3, 3, 1, 3);
        x.setFinal(1, true);
        x.setFinal(0, true);
        Check.due("6 swapStates(1, 3)", x.swapStates(1, 3), 4);
        Check.due("6 finals move", x.finalStates(), 9);
        Check.due("6 tree 0", x.subsetOf(0), 8);
        Check.due("6 tree 1", x.subsetOf(1), 4);
        Check.due("6 tree 2(0)", x.subsetOf(2), 2);
        Check.due("6 tree 3(1,0)", x.subsetOf(8), 1);
        Check.due("6 swapStates(2, 2)", x.swapStates(2, 2), 2);
        Check.due("6 nothing changed", x.finalStates(), 9);
        Check.due("6 nothing changed", x.subsetOf(1), 4);
        Check.due("6 swapStates(3, 0), both final", x.swapStates(3, 0), 3);
        Check.due("6 finals stay", x.finalStates(), 9);
        Check.due("6 swapStates(0, 4)", x.swapStates(0, 4), INVALID);
        Check.due("6 swapStates(4, 0)", x.swapStates(4, 0), INVALID);
        for (int far : FAR_OUT) {
            Check.due("6 far out", x.swapStates(far, 0), INVALID);
            Check.due("6 far out", x.swapStates(0, far), INVALID);
            Check.due("6 far out", x.swapStates(far, far), INVALID);
        }
    }

    /** The 0 that stands for a missing child is no state: it is not counted, and it does not move. */
    private static void promise6SwapOfConstants() {
        BrotherAutomata x = new BrotherAutomata();
        x.reset(3);
        x.addRule(0, 0, 0, 0, 1);
        x.addRule(2, 1, 0, 0, 1);
        Check.due("6 no rule has 0 or 2", x.swapStates(0, 2), 0);
        Check.due("6 tree 2(0)", x.subsetOf(2), 2);
        Check.due("6 both rules have 1", x.swapStates(1, 0), 2);
        Check.due("6 tree 2(0)", x.subsetOf(2), 1);
        Check.due("6 none has 1 now", x.swapStates(1, 2), 0);
        Check.due("6 back", x.swapStates(0, 1), 2);
        Check.due("6 tree 2(0)", x.subsetOf(2), 2);
    }

    private static void promise7RuleCount() {
        BrotherAutomata x = new BrotherAutomata();
        Check.due("7 none", x.ruleCount(), 0);
        x.addRule(0, 0, 0, 0, 0);
        x.addRule(0, 0, 0, 0, 0);
        Check.due("7 two with the same content", x.ruleCount(), 2);
        x.removeRule(1);
        Check.due("7 one", x.ruleCount(), 1);
        x.undo();
        Check.due("7 two again", x.ruleCount(), 2);
        x.reset(2);
        Check.due("7 none after reset", x.ruleCount(), 0);
    }

    private static void promise8FinalStates() {
        BrotherAutomata x = new BrotherAutomata();
        x.reset(6);
        for (int state = 0; state < 6; state++) {
            x.setFinal(state, true);
            Check.due("8 finalStates", x.finalStates(), (2 << state) - 1);
        }
        x.setFinal(3, false);
        Check.due("8 finalStates", x.finalStates(), 55);
    }

    private static void promise9TreeCount() {
        BrotherAutomata x = new BrotherAutomata();
        int[] counts = {INVALID, 2, 2, 10, 26, 114, 402, 1722, INVALID};
        for (int size = 0; size < counts.length; size++) {
            Check.due("9 treeCount(" + size + ")", x.treeCount(size), counts[size]);
        }
        for (int far : FAR_OUT) {
            Check.due("9 far out", x.treeCount(far), INVALID);
        }
    }

    private static void promise10TreeOf() {
        BrotherAutomata x = new BrotherAutomata();
        Check.due("10 treeOf(0, 0, 0)", x.treeOf(0, 0, 0), 0);
        Check.due("10 treeOf(1, 0, 0)", x.treeOf(1, 0, 0), 1);
        Check.due("10 treeOf(2, 0, 0)", x.treeOf(2, 0, 0), 2);
        Check.due("10 treeOf(2, 555, 0)", x.treeOf(2, 555, 0), 957);
        Check.due("10 treeOf(2, 556, 0)", x.treeOf(2, 556, 0), LIMIT);
        Check.due("10 treeOf(2, 2277, 0)", x.treeOf(2, 2277, 0), LIMIT);
        Check.due("10 treeOf(4, 153, 1)", x.treeOf(4, 153, 1), 2277);
        Check.due("10 treeOf(4, 153, 2)", x.treeOf(4, 153, 2), LIMIT);
        Check.due("10 treeOf(3, 2277, 2277)", x.treeOf(3, 2277, 2277), LIMIT);
        Check.due("10 treeOf(3, 2277, 2278)", x.treeOf(3, 2277, 2278), INVALID);
        Check.due("10 treeOf(3, 2278, 2277)", x.treeOf(3, 2278, 2277), INVALID);
        Check.due("10 treeOf(2, 2277, 1)", x.treeOf(2, 2277, 1), INVALID);
        Check.due("10 treeOf(1, 1, 0)", x.treeOf(1, 1, 0), INVALID);
        Check.due("10 treeOf(1, 0, 1)", x.treeOf(1, 0, 1), INVALID);
        Check.due("10 treeOf(5, 0, 0)", x.treeOf(5, 0, 0), INVALID);
        for (int far : FAR_OUT) {
            Check.due("10 far out", x.treeOf(far, 0, 0), INVALID);
            for (int symbol = 0; symbol < 5; symbol++) {
                Check.due("10 far out", x.treeOf(symbol, far, 0), INVALID);
                Check.due("10 far out", x.treeOf(symbol, 0, far), INVALID);
            }
        }
    }

    /** The order of the numbers, and that each method tells the same tree. */
    private static void promise10To14AllTrees() {
        BrotherAutomata x = new BrotherAutomata();
        long before = -1;
        for (int tree = 0; tree < 2278; tree++) {
            int symbol = x.symbolOf(tree);
            int arity = symbol < 2 ? 0 : symbol == 2 ? 1 : 2;
            int first = arity > 0 ? x.childOf(tree, 0) : 0;
            int second = arity > 1 ? x.childOf(tree, 1) : 0;
            Check.due("12 missing first of " + tree, x.childOf(tree, 0), arity > 0 ? first : MISSING);
            Check.due("12 missing second of " + tree, x.childOf(tree, 1), arity > 1 ? second : MISSING);
            Check.due("10 treeOf of the parts of " + tree, x.treeOf(symbol, first, second), tree);
            int size = 1 + (arity > 0 ? x.sizeOf(first) : 0) + (arity > 1 ? x.sizeOf(second) : 0);
            int below = Math.max(arity > 0 ? x.heightOf(first) : -1, arity > 1 ? x.heightOf(second) : -1);
            Check.due("13 sizeOf(" + tree + ")", x.sizeOf(tree), size);
            Check.due("14 heightOf(" + tree + ")", x.heightOf(tree), below + 1);
            long place = ((size * 8L + symbol) * 4096 + first) * 4096 + second;
            Check.holds("10 order at " + tree, place > before);
            before = place;
        }
    }

    private static void promise11SymbolOf() {
        BrotherAutomata x = new BrotherAutomata();
        int[] symbols = {0, 1, 2, 2, 2, 2, 3, 3, 3, 3, 4, 4, 4, 4, 2};
        for (int tree = 0; tree < symbols.length; tree++) {
            Check.due("11 symbolOf(" + tree + ")", x.symbolOf(tree), symbols[tree]);
        }
        Check.due("11 symbolOf(2277)", x.symbolOf(2277), 4);
        Check.due("11 symbolOf(2278)", x.symbolOf(2278), INVALID);
        for (int far : FAR_OUT) {
            Check.due("11 far out", x.symbolOf(far), INVALID);
        }
    }

    private static void promise12ChildOf() {
        BrotherAutomata x = new BrotherAutomata();
        Check.due("12 childOf(3, 0)", x.childOf(3, 0), 1);
        Check.due("12 childOf(3, 1)", x.childOf(3, 1), MISSING);
        Check.due("12 childOf(1, 0)", x.childOf(1, 0), MISSING);
        Check.due("12 childOf(1, 1)", x.childOf(1, 1), MISSING);
        Check.due("12 childOf(8, 0)", x.childOf(8, 0), 1);
        Check.due("12 childOf(8, 1)", x.childOf(8, 1), 0);
        Check.due("12 childOf(8, 2)", x.childOf(8, 2), INVALID);
        Check.due("12 childOf(0, 2)", x.childOf(0, 2), INVALID);
        Check.due("12 childOf(2278, 0)", x.childOf(2278, 0), INVALID);
        for (int far : FAR_OUT) {
            Check.due("12 far out", x.childOf(far, 0), INVALID);
            Check.due("12 far out", x.childOf(8, far), INVALID);
            Check.due("12 far out", x.childOf(0, far), INVALID);
        }
    }

    private static void promise13SizeOf() {
        BrotherAutomata x = new BrotherAutomata();
        int[] starts = {0, 2, 4, 14, 40, 154, 556, 2278};
        for (int size = 1; size <= 7; size++) {
            Check.due("13 first of size " + size, x.sizeOf(starts[size - 1]), size);
            Check.due("13 last of size " + size, x.sizeOf(starts[size] - 1), size);
        }
        Check.due("13 sizeOf(2278)", x.sizeOf(2278), INVALID);
        for (int far : FAR_OUT) {
            Check.due("13 far out", x.sizeOf(far), INVALID);
        }
    }

    private static void promise14HeightOf() {
        BrotherAutomata x = new BrotherAutomata();
        Check.due("14 heightOf(0)", x.heightOf(0), 0);
        Check.due("14 heightOf(1)", x.heightOf(1), 0);
        Check.due("14 heightOf(2)", x.heightOf(2), 1);
        Check.due("14 heightOf(4)", x.heightOf(4), 2);
        Check.due("14 heightOf(13)", x.heightOf(13), 1);
        Check.due("14 heightOf(556), a chain", x.heightOf(556), 6);
        Check.due("14 higher second child", x.heightOf(x.treeOf(3, 0, 14)), 4);
        Check.due("14 higher first child", x.heightOf(x.treeOf(3, 14, 0)), 4);
        Check.due("14 heightOf(2278)", x.heightOf(2278), INVALID);
        for (int far : FAR_OUT) {
            Check.due("14 far out", x.heightOf(far), INVALID);
        }
    }

    private static void promise15SubsetOf() {
        BrotherAutomata x = new BrotherAutomata();
        x.reset(6);
        x.addRule(0, 0, 0, 0, 0);
        x.addRule(0, 0, 0, 0, 5);
        x.addRule(2, 0, 0, 0, 1);
        x.addRule(2, 5, 0, 0, 2);
        x.addRule(2, 1, 0, 0, 0);
        x.addRule(3, 0, 2, 0, 4);
        Check.due("15 subsetOf(0)", x.subsetOf(0), 33);
        Check.due("15 subsetOf(1)", x.subsetOf(1), 0);
        Check.due("15 subsetOf(2)", x.subsetOf(2), 6);
        Check.due("15 subsetOf(3)", x.subsetOf(3), 0);
        Check.due("15 subsetOf(4)", x.subsetOf(4), 1);
        Check.due("15 3(0, 2(0))", x.subsetOf(x.treeOf(3, 0, 2)), 16);
        Check.due("15 3(2(0), 0)", x.subsetOf(x.treeOf(3, 2, 0)), 0);
        Check.due("15 4(0, 2(0))", x.subsetOf(x.treeOf(4, 0, 2)), 0);
        x.removeRule(0);
        Check.due("15 after an edit", x.subsetOf(2), 4);
        Check.due("15 after an edit", x.subsetOf(4), 0);
        Check.due("15 subsetOf(2278)", x.subsetOf(2278), INVALID);
        for (int far : FAR_OUT) {
            Check.due("15 far out", x.subsetOf(far), INVALID);
        }
    }

    private static void promise15SubsetWithConstraints() {
        BrotherAutomata x = new BrotherAutomata();
        x.reset(4);
        x.addRule(0, 0, 0, 0, 0);
        x.addRule(1, 0, 0, 0, 0);
        x.addRule(3, 0, 0, 0, 1);
        x.addRule(3, 0, 0, 1, 2);
        x.addRule(3, 0, 0, 2, 3);
        int equal = 2 + 4;
        int different = 2 + 8;
        Check.due("15 3(0,0)", x.subsetOf(6), equal);
        Check.due("15 3(0,1)", x.subsetOf(7), different);
        Check.due("15 3(1,0)", x.subsetOf(8), different);
        Check.due("15 3(1,1)", x.subsetOf(9), equal);
        Check.due("15 4(0,0)", x.subsetOf(10), 0);
        x.addRule(4, 3, 3, 1, 0);
        Check.due("15 4(3(0,1),3(0,1))", x.subsetOf(x.treeOf(4, 7, 7)), 1);
        Check.due("15 4(3(0,1),3(1,0))", x.subsetOf(x.treeOf(4, 7, 8)), 0);
    }

    private static void promise16Accepts() {
        BrotherAutomata x = new BrotherAutomata();
        x.addRule(0, 0, 0, 0, 0);
        x.addRule(0, 0, 0, 0, 1);
        x.addRule(1, 0, 0, 0, 0);
        Check.due("16 no final state", x.accepts(0), 0);
        x.setFinal(1, true);
        Check.due("16 accepts(0)", x.accepts(0), 1);
        Check.due("16 accepts(1)", x.accepts(1), 0);
        x.setFinal(0, true);
        Check.due("16 accepts(0)", x.accepts(0), 1);
        Check.due("16 accepts(1)", x.accepts(1), 1);
        Check.due("16 accepts(2277)", x.accepts(2277), 0);
        Check.due("16 accepts(2278)", x.accepts(2278), INVALID);
        for (int far : FAR_OUT) {
            Check.due("16 far out", x.accepts(far), INVALID);
        }
    }

    private static void promise17RunCount() {
        BrotherAutomata x = new BrotherAutomata();
        x.reset(3);
        x.addRule(0, 0, 0, 0, 0);
        x.addRule(0, 0, 0, 0, 0);
        x.addRule(0, 0, 0, 0, 1);
        x.addRule(1, 0, 0, 0, 1);
        x.addRule(3, 0, 1, 0, 2);
        x.addRule(3, 0, 0, 1, 2);
        x.addRule(3, 1, 1, 2, 2);
        Check.due("17 constant", x.runCount(0, 0), 2);
        Check.due("17 constant", x.runCount(0, 1), 1);
        Check.due("17 constant", x.runCount(0, 2), 0);
        Check.due("17 3(0,0): 2 * 1 + 2 * 2", x.runCount(6, 2), 6);
        Check.due("17 3(0,1): 2 * 1 + 1 * 1", x.runCount(7, 2), 3);
        Check.due("17 3(1,0): 0 + 1 * 1", x.runCount(8, 2), 1);
        Check.due("17 3(1,1): none", x.runCount(9, 2), 0);
        Check.due("17 state 3", x.runCount(0, 3), INVALID);
        Check.due("17 tree 2278", x.runCount(2278, 0), INVALID);
        for (int far : FAR_OUT) {
            Check.due("17 far out", x.runCount(far, 0), INVALID);
            Check.due("17 far out", x.runCount(0, far), INVALID);
        }
    }

    private static void promise17RunCountGreat() {
        BrotherAutomata x = new BrotherAutomata();
        x.reset(1);
        x.addRule(0, 0, 0, 0, 0);
        x.addRule(0, 0, 0, 0, 0);
        for (int rule = 2; rule < 16; rule++) {
            x.addRule(2, 0, 0, 0, 0);
        }
        Check.due("17 chain of seven nodes: 14^6 * 2", x.runCount(556, 0), 15059072);
        x.reset(6);
        for (int rule = 0; rule < 8; rule++) {
            x.addRule(0, 0, 0, 0, 5);
            x.addRule(4, 5, 5, 0, 5);
        }
        int pair = x.treeOf(4, 0, 0);
        int full = x.treeOf(4, pair, pair);
        Check.due("17 full tree of seven nodes: 8^7", x.runCount(full, 5), 2097152);
        Check.due("17 comb of seven nodes: 8^7", x.runCount(x.treeOf(4, 0, x.treeOf(4, pair, 0)), 5), 2097152);
    }

    private static void promise18AcceptedCount() {
        BrotherAutomata x = new BrotherAutomata();
        x.reset(1);
        x.addRule(0, 0, 0, 0, 0);
        x.addRule(1, 0, 0, 0, 0);
        x.addRule(3, 0, 0, 1, 0);
        for (int size = 1; size <= 7; size++) {
            Check.due("18 nothing is final", x.acceptedCount(size), 0);
        }
        x.setFinal(0, true);
        int[] counts = {INVALID, 2, 0, 2, 0, 0, 0, 2, INVALID};
        for (int size = 0; size < counts.length; size++) {
            Check.due("18 acceptedCount(" + size + ")", x.acceptedCount(size), counts[size]);
        }
        x.removeRule(2);
        x.addRule(4, 0, 0, 2, 0);
        int[] others = {INVALID, 2, 0, 2, 0, 8, 0, 34, INVALID};
        for (int size = 0; size < others.length; size++) {
            Check.due("18 acceptedCount(" + size + ")", x.acceptedCount(size), others[size]);
        }
        for (int far : FAR_OUT) {
            Check.due("18 far out", x.acceptedCount(far), INVALID);
        }
    }

    private static void promise19AcceptedTree() {
        BrotherAutomata x = new BrotherAutomata();
        x.reset(1);
        x.addRule(0, 0, 0, 0, 0);
        x.addRule(1, 0, 0, 0, 0);
        x.addRule(3, 0, 0, 2, 0);
        x.setFinal(0, true);
        Check.due("19 acceptedTree(1, 0)", x.acceptedTree(1, 0), 0);
        Check.due("19 acceptedTree(1, 1)", x.acceptedTree(1, 1), 1);
        Check.due("19 acceptedTree(1, 2)", x.acceptedTree(1, 2), MISSING);
        Check.due("19 acceptedTree(2, 0)", x.acceptedTree(2, 0), MISSING);
        Check.due("19 acceptedTree(3, 0)", x.acceptedTree(3, 0), 7);
        Check.due("19 acceptedTree(3, 1)", x.acceptedTree(3, 1), 8);
        Check.due("19 acceptedTree(3, 2)", x.acceptedTree(3, 2), MISSING);
        Check.due("19 acceptedTree(3, greatest)", x.acceptedTree(3, Integer.MAX_VALUE), MISSING);
        Check.due("19 acceptedTree(3, -1)", x.acceptedTree(3, -1), INVALID);
        Check.due("19 acceptedTree(3, least)", x.acceptedTree(3, Integer.MIN_VALUE), INVALID);
        Check.due("19 acceptedTree(0, 0)", x.acceptedTree(0, 0), INVALID);
        Check.due("19 acceptedTree(8, 0)", x.acceptedTree(8, 0), INVALID);
        for (int far : FAR_OUT) {
            Check.due("19 far out", x.acceptedTree(far, 0), INVALID);
        }
        BrotherAutomata all = universal();
        Check.due("19 last of size 7", all.acceptedTree(7, 1721), 2277);
        Check.due("19 behind the last", all.acceptedTree(7, 1722), MISSING);
    }

    private static void promise20TreesOfSet() {
        BrotherAutomata x = new BrotherAutomata();
        x.reset(3);
        x.addRule(0, 0, 0, 0, 0);
        x.addRule(1, 0, 0, 0, 1);
        x.addRule(2, 0, 0, 0, 1);
        x.addRule(2, 0, 0, 0, 2);
        Check.due("20 {0}", x.treesOfSet(1), 1);
        Check.due("20 {1}", x.treesOfSet(2), 1);
        Check.due("20 {1, 2}", x.treesOfSet(6), 1);
        Check.due("20 {}", x.treesOfSet(0), 2);
        Check.due("20 {0, 1, 2}", x.treesOfSet(7), 0);
        x.addRule(2, 1, 0, 0, 1);
        Check.due("20 {1} is many", x.treesOfSet(2), 2);
        Check.due("20 {1, 2} is one", x.treesOfSet(6), 1);
        Check.due("20 set 8", x.treesOfSet(8), INVALID);
        for (int far : FAR_OUT) {
            Check.due("20 far out", x.treesOfSet(far), INVALID);
        }
        x.reset(6);
        Check.due("20 set 63", x.treesOfSet(63), 0);
        Check.due("20 set 64", x.treesOfSet(64), INVALID);
    }

    /** Pairs of the only tree of a set, of the two trees of a set, and of trees of two sets. */
    private static void promise20ExactlyOneTree() {
        BrotherAutomata x = new BrotherAutomata();
        x.reset(4);
        x.addRule(0, 0, 0, 0, 0);
        x.addRule(1, 0, 0, 0, 1);
        x.addRule(3, 0, 0, 1, 2);
        x.addRule(4, 0, 1, 2, 3);
        Check.due("20 one equal pair", x.treesOfSet(4), 1);
        Check.due("20 one pair of two sets", x.treesOfSet(8), 1);
        x.addRule(3, 0, 0, 2, 3);
        Check.due("20 no different pair", x.treesOfSet(8), 1);
        x.addRule(4, 0, 0, 0, 2);
        Check.due("20 two symbols", x.treesOfSet(4), 2);
        x.reset(2);
        x.addRule(0, 0, 0, 0, 0);
        x.addRule(1, 0, 0, 0, 0);
        x.addRule(3, 0, 0, 2, 1);
        Check.due("20 two constants", x.treesOfSet(1), 2);
        Check.due("20 two different pairs", x.treesOfSet(2), 2);
        x.addRule(2, 1, 0, 0, 0);
        x.addRule(2, 1, 0, 0, 1);
        Check.due("20 both at once", x.treesOfSet(3), 2);
    }

    private static void promise21ReachedSets() {
        BrotherAutomata x = new BrotherAutomata();
        x.reset(6);
        Check.due("21 the empty set", x.reachedSets(), 1);
        x.addRule(0, 0, 0, 0, 0);
        Check.due("21 and {0}", x.reachedSets(), 2);
        for (int state = 0; state < 5; state++) {
            x.addRule(2, state, 0, 0, state + 1);
        }
        Check.due("21 a chain", x.reachedSets(), 7);
        x.addRule(2, 0, 0, 0, 0);
        Check.due("21 growing sets", x.reachedSets(), 7);
        Check.due("21 all states", x.treesOfSet(63), 2);
        Check.due("21 universal", universal().reachedSets(), 1);
    }

    private static void promise22IsReachable() {
        BrotherAutomata x = new BrotherAutomata();
        x.reset(4);
        x.addRule(0, 0, 0, 0, 2);
        x.addRule(2, 2, 0, 0, 3);
        x.addRule(4, 2, 2, 2, 0);
        x.addRule(2, 1, 0, 0, 1);
        Check.due("22 isReachable(2)", x.isReachable(2), 1);
        Check.due("22 isReachable(3)", x.isReachable(3), 1);
        Check.due("22 isReachable(0), there are no two", x.isReachable(0), 0);
        Check.due("22 isReachable(1), only from itself", x.isReachable(1), 0);
        x.addRule(1, 0, 0, 0, 2);
        Check.due("22 isReachable(0) now", x.isReachable(0), 1);
        Check.due("22 isReachable(4)", x.isReachable(4), INVALID);
        for (int far : FAR_OUT) {
            Check.due("22 far out", x.isReachable(far), INVALID);
        }
    }

    private static void promise23IsEmpty() {
        BrotherAutomata x = new BrotherAutomata();
        Check.due("23 new", x.isEmpty(), 1);
        x.addRule(0, 0, 0, 0, 0);
        Check.due("23 no final state", x.isEmpty(), 1);
        x.setFinal(1, true);
        Check.due("23 final state not reached", x.isEmpty(), 1);
        x.addRule(2, 0, 0, 0, 1);
        Check.due("23 reached", x.isEmpty(), 0);
        x.swapStates(0, 1);
        Check.due("23 swapped", x.isEmpty(), 0);
        x.setFinal(0, false);
        Check.due("23 not final any more", x.isEmpty(), 1);
    }

    private static void promise24IsUniversal() {
        BrotherAutomata x = universal();
        Check.due("24 all trees", x.isUniversal(), 1);
        x.setFinal(0, false);
        Check.due("24 not final", x.isUniversal(), 0);
        x.undo();
        Check.due("24 final again", x.isUniversal(), 1);
        x.removeRule(4);
        x.addRule(4, 0, 0, 1, 0);
        Check.due("24 different brothers are missing", x.isUniversal(), 0);
        x.addRule(4, 0, 0, 2, 0);
        Check.due("24 all again", x.isUniversal(), 1);
        x.removeRule(0);
        Check.due("24 a constant is missing", x.isUniversal(), 0);
    }

    /** The most states there can be: all 64 sets are looked at, and none behind them. */
    private static void promise20To27WithSixStates() {
        BrotherAutomata x = new BrotherAutomata();
        x.reset(6);
        x.addRule(0, 0, 0, 0, 5);
        x.addRule(1, 0, 0, 0, 5);
        x.addRule(2, 5, 0, 0, 5);
        x.addRule(3, 5, 5, 0, 5);
        x.addRule(4, 5, 5, 0, 5);
        x.setFinal(5, true);
        Check.due("20 {5}", x.treesOfSet(32), 2);
        Check.due("21 only {5}", x.reachedSets(), 1);
        Check.due("22 state 5", x.isReachable(5), 1);
        Check.due("22 state 4", x.isReachable(4), 0);
        Check.due("23 isEmpty", x.isEmpty(), 0);
        Check.due("24 isUniversal", x.isUniversal(), 1);
        Check.due("25 isComplete", x.isComplete(), 1);
        Check.due("26 isDeterministic", x.isDeterministic(), 1);
        Check.due("27 leastHeight", x.leastHeight(), 0);
        for (int state = 0; state < 5; state++) {
            x.addRule(1, 0, 0, 0, state);
        }
        Check.due("20 all states", x.treesOfSet(63), 1);
        Check.due("21 and all states", x.reachedSets(), 2);
        Check.due("24 isUniversal", x.isUniversal(), 1);
        Check.due("26 not deterministic", x.isDeterministic(), 0);
        x.setFinal(5, false);
        Check.due("23 nothing is final", x.isEmpty(), 1);
        Check.due("27 nothing is final", x.leastHeight(), MISSING);
    }

    private static void promise25IsComplete() {
        BrotherAutomata x = universal();
        Check.due("25 complete", x.isComplete(), 1);
        x.setFinal(0, false);
        Check.due("25 final states do not matter", x.isComplete(), 1);
        for (int rule = 0; rule < 5; rule++) {
            x.removeRule(rule);
            Check.due("25 without rule " + rule, x.isComplete(), 0);
            x.undo();
        }
        Check.due("25 complete again", x.isComplete(), 1);
    }

    private static void promise26IsDeterministic() {
        BrotherAutomata x = new BrotherAutomata();
        Check.due("26 without rules", x.isDeterministic(), 1);
        x.addRule(0, 0, 0, 0, 0);
        x.addRule(0, 0, 0, 0, 0);
        Check.due("26 the same rule twice", x.isDeterministic(), 1);
        x.addRule(3, 0, 0, 1, 0);
        x.addRule(3, 0, 0, 2, 1);
        Check.due("26 EQUAL and DIFFERENT", x.isDeterministic(), 1);
        x.addRule(2, 1, 0, 0, 0);
        x.addRule(4, 1, 1, 0, 0);
        Check.due("26 still", x.isDeterministic(), 1);
        x.addRule(4, 1, 1, 2, 1);
        Check.due("26 two states for different brothers", x.isDeterministic(), 0);
    }

    private static void promise27LeastHeight() {
        BrotherAutomata x = new BrotherAutomata();
        Check.due("27 empty", x.leastHeight(), MISSING);
        x.reset(6);
        x.addRule(0, 0, 0, 0, 0);
        for (int state = 0; state < 5; state++) {
            x.addRule(2, state, 0, 0, state + 1);
        }
        Check.due("27 no final state", x.leastHeight(), MISSING);
        for (int state = 5; state >= 0; state--) {
            x.setFinal(state, true);
            Check.due("27 chain to " + state, x.leastHeight(), state);
        }
        x.setFinal(0, false);
        Check.due("27 not final any more", x.leastHeight(), 1);
    }

    /** Trees higher than any small tree, and a height that waits for a second tree of a set. */
    private static void promise27LateHeight() {
        BrotherAutomata x = new BrotherAutomata();
        x.reset(6);
        x.addRule(0, 0, 0, 0, 0);
        for (int state = 0; state < 5; state++) {
            x.addRule(2, state, 0, 0, state + 1);
        }
        x.addRule(2, 5, 0, 0, 0);
        x.addRule(4, 1, 1, 2, 1);
        x.addRule(3, 1, 1, 2, 5);
        x.setFinal(1, true);
        Check.due("27 first tree", x.leastHeight(), 1);
        x.setFinal(1, false);
        x.setFinal(5, true);
        x.removeRule(5);
        Check.due("27 no chain to 5, and only one tree of {1}", x.isEmpty(), 1);
        x.addRule(2, 4, 0, 0, 1);
        Check.due("27 chain 0 1 2 3 4 1, then a pair", x.leastHeight(), 6);
        x.removeRule(x.ruleCount() - 1);
        x.addRule(3, 1, 1, 1, 1);
        Check.due("27 pair in {1} of height 2, then a different pair", x.leastHeight(), 3);
    }

    private static void promise28Undo() {
        BrotherAutomata x = new BrotherAutomata();
        Check.due("28 nothing to undo", x.undo(), MISSING);
        for (int rule = 0; rule < 7; rule++) {
            x.addRule(0, 0, 0, 0, 0);
        }
        for (int left = 4; left >= 0; left--) {
            Check.due("28 undo", x.undo(), left);
            Check.due("28 rules", x.ruleCount(), 2 + left);
        }
        Check.due("28 only five", x.undo(), MISSING);
        Check.due("28 rules stand", x.ruleCount(), 2);
        x.setFinal(0, false);
        Check.due("28 an edit that changes nothing", x.undo(), 0);
        x.swapStates(1, 1);
        x.setFinal(1, true);
        x.setFinal(1, true);
        Check.due("28 second setFinal", x.undo(), 2);
        Check.due("28 still final", x.finalStates(), 2);
        Check.due("28 first setFinal", x.undo(), 1);
        Check.due("28 not final", x.finalStates(), 0);
        x.reset(2);
        Check.due("28 nothing after reset", x.undo(), MISSING);
    }

    private static void promise28UndoEachKind() {
        BrotherAutomata x = new BrotherAutomata();
        x.reset(3);
        x.addRule(0, 0, 0, 0, 0);
        x.addRule(3, 0, 0, 1, 1);
        x.addRule(4, 0, 0, 2, 2);
        x.setFinal(1, true);
        Check.due("28 before", x.acceptedTree(3, 0), 6);
        x.swapStates(0, 1);
        Check.due("28 swapped", x.subsetOf(0), 2);
        x.removeRule(1);
        Check.due("28 removed", x.subsetOf(6), 0);
        x.setFinal(2, true);
        Check.due("28 undo setFinal", x.undo(), 4);
        Check.due("28 finals", x.finalStates(), 1);
        Check.due("28 undo removeRule", x.undo(), 3);
        Check.due("28 the rule is back in its place", x.subsetOf(6), 1);
        Check.due("28 least height", x.leastHeight(), 1);
        Check.due("28 undo swapStates", x.undo(), 2);
        Check.due("28 states are back", x.subsetOf(0), 1);
        Check.due("28 finals are back", x.finalStates(), 2);
        Check.due("28 undo setFinal", x.undo(), 1);
        Check.due("28 isEmpty", x.isEmpty(), 1);
        Check.due("28 undo addRule", x.undo(), 0);
        Check.due("28 rules", x.ruleCount(), 2);
    }

    private static void promise28UndoThenEdit() {
        BrotherAutomata x = new BrotherAutomata();
        for (int rule = 0; rule < 6; rule++) {
            x.addRule(0, 0, 0, 0, 0);
        }
        Check.due("28 undo", x.undo(), 4);
        Check.due("28 undo", x.undo(), 3);
        Check.due("28 undo", x.undo(), 2);
        x.setFinal(1, true);
        Check.due("28 undo of the new edit", x.undo(), 2);
        Check.due("28 final", x.finalStates(), 0);
        Check.due("28 undo of an older edit", x.undo(), 1);
        Check.due("28 rules", x.ruleCount(), 2);
        Check.due("28 undo", x.undo(), 0);
        Check.due("28 rules", x.ruleCount(), 1);
        Check.due("28 no undo", x.undo(), MISSING);
    }

    private static void errorsAreNoEdits() {
        BrotherAutomata x = new BrotherAutomata();
        x.addRule(0, 0, 0, 0, 0);
        x.setFinal(2, true);
        x.addRule(0, 0, 0, 0, 2);
        x.removeRule(1);
        x.swapStates(0, 2);
        x.reset(7);
        Check.due("28 only one edit", x.undo(), 0);
        for (int rule = 0; rule < 16; rule++) {
            x.addRule(1, 0, 0, 0, 1);
        }
        Check.due("28 limit", x.addRule(1, 0, 0, 0, 1), LIMIT);
        Check.due("28 undo takes the 16th", x.undo(), 4);
        Check.due("28 rules", x.ruleCount(), 15);
    }

    private static void orderOfErrors() {
        BrotherAutomata x = new BrotherAutomata();
        for (int rule = 0; rule < 16; rule++) {
            x.addRule(1, 0, 0, 0, 1);
        }
        Check.due("4 invalid before limit", x.addRule(1, 0, 0, 0, 2), INVALID);
        Check.due("4 invalid before limit", x.addRule(5, 0, 0, 0, 0), INVALID);
        Check.due("4 limit", x.addRule(3, 0, 0, 1, 0), LIMIT);
        Check.due("10 invalid before limit", x.treeOf(3, 2277, -1), INVALID);
        Check.due("12 invalid before not found", x.childOf(0, 2), INVALID);
        Check.due("19 invalid before not found", x.acceptedTree(8, 5), INVALID);
    }

    private static void objectsAreApart() {
        BrotherAutomata x = new BrotherAutomata();
        BrotherAutomata y = new BrotherAutomata();
        x.addRule(0, 0, 0, 0, 1);
        x.setFinal(1, true);
        Check.due("1 rules of the other", y.ruleCount(), 0);
        Check.due("1 finals of the other", y.finalStates(), 0);
        Check.due("1 subset of the other", y.subsetOf(0), 0);
        Check.due("1 history of the other", y.undo(), MISSING);
        Check.due("1 its own", x.accepts(0), 1);
    }

    private static BrotherAutomata universal() {
        BrotherAutomata x = new BrotherAutomata();
        x.reset(1);
        x.addRule(0, 0, 0, 0, 0);
        x.addRule(1, 0, 0, 0, 0);
        x.addRule(2, 0, 0, 0, 0);
        x.addRule(3, 0, 0, 0, 0);
        x.addRule(4, 0, 0, 0, 0);
        x.setFinal(0, true);
        return x;
    }
}

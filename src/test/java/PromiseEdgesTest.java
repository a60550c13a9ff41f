/** The range of each argument of each promise: the last value within it and the first one outside, on both sides. */
final class PromiseEdgesTest {
    private static final int INVALID = -1;
    private static final int LIMIT = -2;
    private static final int MISSING = -3;
    private static final int MIN = Integer.MIN_VALUE;
    private static final int MAX = Integer.MAX_VALUE;
    /** Just outside, far outside, and such as would be taken for 0 if only their low bits were looked at. */
    private static final int[] BELOW = {-1, -2, -32, -64, -256, -1024, -65536, MIN + 1, MIN};
    private static final int[] NO_TREES = {2278, 2279, 4096, 65536, 1 << 20, MAX - 1, MAX};
    private static final int[] NO_SIZES = {8, 9, 16, 32, 256, 65536, MAX - 1, MAX};

    private PromiseEdgesTest() {
    }

    public static void main(String[] args) {
        promise1NewObject();
        promise2States();
        promise3State();
        promise3NumberOfFinalStates();
        promise4Symbol();
        promise4FirstAndSecond();
        promise4Constraint();
        promise4Target();
        promise4Sixteen();
        promise5Rule();
        promise5FirstAndLastRule();
        promise6States();
        promise6FinalStates();
        promise6NumberOfRules();
        promise7NoneAndFull();
        promise8NoneAndAll();
        promise9Size();
        promise10Arguments();
        promise11To16Tree();
        promise12Index();
        promise17TreeAndState();
        promise17NoneAndGreatest();
        promise18NoneAndAll();
        promise18And19Size();
        promise19Index();
        promise20Set();
        promise21OneAndAllSets();
        promise22State();
        promise20To27FirstAsked();
        promise23To26WithoutRules();
        promise27NoneLeastAndGreat();
        promise27LeastOfSeveral();
        promise28Undo();
        Check.close("PromiseEdgesTest");
    }

    private static BrotherAutomata withStates(int states) {
        BrotherAutomata x = new BrotherAutomata();
        x.reset(states);
        return x;
    }

    /** All trees lead to state 0, which is final. */
    private static BrotherAutomata universal(int states) {
        BrotherAutomata x = withStates(states);
        for (int symbol = 0; symbol < 5; symbol++) {
            x.addRule(symbol, 0, 0, 0, 0);
        }
        x.setFinal(0, true);
        return x;
    }

    /** Values that are no states, the first one behind the last state among them. */
    private static int[] noStates(int states) {
        return new int[] {states, states + 1, 7, 31, 32, 33, 64, 256, 65536, MAX - 1, MAX, -1, -2, -31, -32, -64, MIN};
    }

    private static void promise1NewObject() {
        for (int object = 0; object < 3; object++) {
            BrotherAutomata x = new BrotherAutomata();
            Check.due("1 undo", x.undo(), MISSING);
            Check.due("1 ruleCount", x.ruleCount(), 0);
            Check.due("1 finalStates", x.finalStates(), 0);
            Check.due("1 last state", x.setFinal(1, true), 1);
            Check.due("1 behind the last state", x.setFinal(2, true), INVALID);
            Check.due("1 N", x.reset(6), 2);
        }
    }

    private static void promise2States() {
        BrotherAutomata x = new BrotherAutomata();
        int previous = 2;
        for (int states : new int[] {1, 6, 6, 1, 1, 2, 5, 3, 4}) {
            Check.due("2 reset(" + states + ")", x.reset(states), previous);
            previous = states;
            for (int below : BELOW) {
                Check.due("2 reset(" + below + ")", x.reset(below), INVALID);
            }
            for (int above : new int[] {7, 8, 32, 33, 34, 256 + 3, 65536 + 3, MAX - 1, MAX}) {
                Check.due("2 reset(" + above + ")", x.reset(above), INVALID);
            }
            Check.due("2 reset(0)", x.reset(0), INVALID);
            Check.due("2 last state", x.isReachable(states - 1), 0);
            Check.due("2 behind the last state", x.isReachable(states), INVALID);
        }
        full(x);
        x.setFinal(3, true);
        Check.due("2 same N", x.reset(4), 4);
        Check.due("2 without rules", x.ruleCount(), 0);
        Check.due("2 without final states", x.finalStates(), 0);
        Check.due("2 no subset", x.subsetOf(0), 0);
        Check.due("2 only the empty set", x.reachedSets(), 1);
    }

    private static void full(BrotherAutomata x) {
        for (int rule = x.ruleCount(); rule < 16; rule++) {
            x.addRule(0, 0, 0, 0, 0);
        }
    }

    private static void promise3State() {
        for (int states = 1; states <= 6; states++) {
            BrotherAutomata x = withStates(states);
            for (int none : noStates(states)) {
                Check.due("3 setFinal(" + none + ", true)", x.setFinal(none, true), INVALID);
                Check.due("3 setFinal(" + none + ", false)", x.setFinal(none, false), INVALID);
            }
            Check.due("3 nothing is final", x.finalStates(), 0);
            Check.due("3 last state", x.setFinal(states - 1, true), 1);
            Check.due("3 it is final", x.finalStates(), 1 << states - 1);
            Check.due("3 state 0", x.setFinal(0, true), states == 1 ? 1 : 2);
            for (int none : noStates(states)) {
                x.setFinal(none, false);
            }
            Check.due("3 both are final", x.finalStates(), 1 | 1 << states - 1);
        }
    }

    private static void promise3NumberOfFinalStates() {
        BrotherAutomata x = withStates(6);
        Check.due("3 none", x.setFinal(3, false), 0);
        for (int state = 0; state < 6; state++) {
            Check.due("3 one more", x.setFinal(state, true), state + 1);
            Check.due("3 no more", x.setFinal(state, true), state + 1);
        }
        for (int state = 5; state >= 0; state--) {
            Check.due("3 one less", x.setFinal(state, false), state);
            Check.due("3 no less", x.setFinal(state, false), state);
        }
    }

    private static void promise4Symbol() {
        BrotherAutomata x = new BrotherAutomata();
        for (int below : BELOW) {
            Check.due("4 symbol " + below, x.addRule(below, 0, 0, 0, 0), INVALID);
        }
        for (int above : new int[] {5, 6, 7, 8, 16, 32, 256, 65536, MAX - 1, MAX}) {
            Check.due("4 symbol " + above, x.addRule(above, 0, 0, 0, 0), INVALID);
        }
        Check.due("4 symbol 0", x.addRule(0, 0, 0, 0, 0), 0);
        Check.due("4 symbol 4", x.addRule(4, 0, 0, 0, 0), 1);
    }

    private static void promise4FirstAndSecond() {
        int[] arities = {0, 0, 1, 2, 2};
        for (int states = 1; states <= 6; states++) {
            BrotherAutomata x = withStates(states);
            int last = states - 1;
            int rules = 0;
            for (int symbol = 0; symbol < 5; symbol++) {
                for (int none : noStates(states)) {
                    Check.due("4 symbol " + symbol + ", first " + none, x.addRule(symbol, none, 0, 0, 0), INVALID);
                    Check.due("4 symbol " + symbol + ", second " + none, x.addRule(symbol, 0, none, 0, 0), INVALID);
                }
                int first = x.addRule(symbol, last, 0, 0, 0);
                boolean firstFits = arities[symbol] > 0 || last == 0;
                Check.due("4 symbol " + symbol + ", first " + last, first, firstFits ? rules : INVALID);
                rules += firstFits ? 1 : 0;
                int second = x.addRule(symbol, 0, last, 0, 0);
                boolean secondFits = arities[symbol] > 1 || last == 0;
                Check.due("4 symbol " + symbol + ", second " + last, second, secondFits ? rules : INVALID);
                rules += secondFits ? 1 : 0;
            }
            Check.due("4 rules", x.ruleCount(), rules);
        }
    }

    private static void promise4Constraint() {
        for (int symbol = 0; symbol < 5; symbol++) {
            BrotherAutomata x = new BrotherAutomata();
            for (int below : BELOW) {
                Check.due("4 constraint " + below, x.addRule(symbol, 0, 0, below, 0), INVALID);
            }
            for (int above : new int[] {3, 4, 5, 32, 256, 65536, MAX - 1, MAX}) {
                Check.due("4 constraint " + above, x.addRule(symbol, 0, 0, above, 0), INVALID);
            }
            Check.due("4 ANY", x.addRule(symbol, 0, 0, BrotherAutomata.ANY, 0), 0);
            boolean binary = symbol >= 3;
            Check.due("4 EQUAL", x.addRule(symbol, 0, 0, BrotherAutomata.EQUAL, 0), binary ? 1 : INVALID);
            Check.due("4 DIFFERENT", x.addRule(symbol, 0, 0, BrotherAutomata.DIFFERENT, 0), binary ? 2 : INVALID);
        }
    }

    private static void promise4Target() {
        for (int states = 1; states <= 6; states++) {
            BrotherAutomata x = withStates(states);
            for (int symbol = 0; symbol < 5; symbol++) {
                for (int none : noStates(states)) {
                    Check.due("4 target " + none, x.addRule(symbol, 0, 0, 0, none), INVALID);
                }
                Check.due("4 target 0", x.addRule(symbol, 0, 0, 0, 0), 2 * symbol);
                Check.due("4 last target", x.addRule(symbol, 0, 0, 0, states - 1), 2 * symbol + 1);
            }
            Check.due("4 they lead to both", x.subsetOf(0), 1 | 1 << states - 1);
        }
    }

    /** The 15th, the 16th and the 17th rule of each symbol; the 16th one must work like the others. */
    private static void promise4Sixteen() {
        int[] trees = {0, 1, 2, 6, 10};
        for (int symbol = 0; symbol < 5; symbol++) {
            BrotherAutomata x = withStates(3);
            x.addRule(0, 0, 0, 0, 0);
            for (int rule = 1; rule < 14; rule++) {
                x.addRule(3, 2, 2, 2, 2);
            }
            Check.due("4 the 15th rule", x.addRule(symbol, 0, 0, 0, 1), 14);
            Check.due("4 the 16th rule", x.addRule(symbol, 0, 0, 0, 2), 15);
            Check.due("4 the 17th rule", x.addRule(symbol, 0, 0, 0, 0), LIMIT);
            Check.due("4 both lead on", x.subsetOf(trees[symbol]), symbol == 0 ? 7 : 6);
            Check.due("4 a run of the 16th", x.runCount(trees[symbol], 2), 1);
            Check.due("4 the sets know the 16th", x.isReachable(2), 1);
            Check.due("4 rules", x.ruleCount(), 16);
        }
    }

    private static void promise5Rule() {
        for (int rules = 0; rules <= 16; rules++) {
            BrotherAutomata x = new BrotherAutomata();
            for (int rule = 0; rule < rules; rule++) {
                x.addRule(0, 0, 0, 0, 0);
            }
            for (int below : BELOW) {
                Check.due("5 removeRule(" + below + ")", x.removeRule(below), INVALID);
            }
            for (int above : new int[] {rules, rules + 1, 16, 17, 32, 256, 65536, MAX - 1, MAX}) {
                Check.due("5 of " + rules + ", removeRule(" + above + ")", x.removeRule(above), INVALID);
            }
            Check.due("5 all stand", x.runCount(0, 0), rules);
            if (rules > 0) {
                Check.due("5 of " + rules + ", the last one", x.removeRule(rules - 1), rules - 1);
                Check.due("5 it is gone", x.removeRule(rules - 1), INVALID);
                Check.due("5 the others stand", x.runCount(0, 0), rules - 1);
            }
        }
    }

    /** "Those behind it move down by one", from the first place on, and up to the sixteenth. */
    private static void promise5FirstAndLastRule() {
        for (int gone = 0; gone < 16; gone++) {
            BrotherAutomata x = withStates(6);
            for (int rule = 0; rule < 16; rule++) {
                x.addRule(rule % 2, 0, 0, 0, rule * 3 / 8);
            }
            Check.due("5 removeRule(" + gone + ")", x.removeRule(gone), 15);
            for (int place = 0; place < 15; place++) {
                int rule = place < gone ? place : place + 1;
                int before = x.runCount(rule % 2, rule * 3 / 8);
                Check.due("5 removeRule(" + place + ")", x.removeRule(place), 14);
                Check.due("5 rule " + rule + " was at " + place, x.runCount(rule % 2, rule * 3 / 8), before - 1);
                x.undo();
            }
        }
    }

    private static void promise6States() {
        for (int states = 1; states <= 6; states++) {
            BrotherAutomata x = withStates(states);
            int last = states - 1;
            x.addRule(0, 0, 0, 0, last);
            x.setFinal(last, true);
            for (int none : noStates(states)) {
                Check.due("6 swapStates(" + none + ", 0)", x.swapStates(none, 0), INVALID);
                Check.due("6 swapStates(0, " + none + ")", x.swapStates(0, none), INVALID);
                Check.due("6 swapStates(" + none + " twice)", x.swapStates(none, none), INVALID);
            }
            Check.due("6 nothing moved", x.subsetOf(0), 1 << last);
            Check.due("6 nothing moved", x.finalStates(), 1 << last);
            Check.due("6 the same one", x.swapStates(last, last), 1);
            Check.due("6 nothing moved", x.subsetOf(0), 1 << last);
            Check.due("6 nothing moved", x.finalStates(), 1 << last);
            Check.due("6 first and last", x.swapStates(0, last), 1);
            Check.due("6 the rule", x.subsetOf(0), 1);
            Check.due("6 the final state", x.finalStates(), 1);
            Check.due("6 last and first", x.swapStates(last, 0), 1);
            Check.due("6 the rule", x.subsetOf(0), 1 << last);
            Check.due("6 the final state", x.finalStates(), 1 << last);
        }
    }

    /** "..and among the final states": none, one, the other, or both of them final. */
    private static void promise6FinalStates() {
        for (int finals = 0; finals < 8; finals++) {
            BrotherAutomata x = withStates(3);
            for (int state = 0; state < 3; state++) {
                x.setFinal(state, (finals >> state & 1) == 1);
            }
            int swapped = finals & 2 | finals >> 2 & 1 | (finals & 1) << 2;
            x.swapStates(0, 2);
            Check.due("6 swapStates(0, 2), finals " + finals, x.finalStates(), swapped);
            x.swapStates(2, 0);
            Check.due("6 swapStates(2, 0), finals " + swapped, x.finalStates(), finals);
            x.swapStates(1, 1);
            Check.due("6 swapStates(1, 1), finals " + finals, x.finalStates(), finals);
        }
    }

    /** "The number of rules that contain at least one of the two states": a rule counts once. */
    private static void promise6NumberOfRules() {
        BrotherAutomata x = withStates(6);
        Check.due("6 no rules", x.swapStates(0, 5), 0);
        x.addRule(2, 5, 0, 0, 1);
        Check.due("6 as first", x.swapStates(5, 5), 1);
        x.addRule(3, 1, 5, 0, 1);
        Check.due("6 as second", x.swapStates(5, 5), 2);
        x.addRule(0, 0, 0, 0, 5);
        Check.due("6 as target", x.swapStates(5, 5), 3);
        x.addRule(4, 5, 5, 1, 5);
        Check.due("6 three times in a rule", x.swapStates(5, 5), 4);
        x.addRule(4, 4, 5, 1, 4);
        Check.due("6 both in a rule", x.swapStates(4, 5), 5);
        Check.due("6 in no rule, 0 of missing children is no state", x.swapStates(0, 3), 0);
        x.reset(6);
        for (int rule = 0; rule < 16; rule++) {
            x.addRule(3, 1, 2, 0, 3);
        }
        Check.due("6 all sixteen", x.swapStates(3, 4), 16);
        Check.due("6 none of sixteen", x.swapStates(3, 5), 0);
        Check.due("6 all sixteen moved", x.swapStates(4, 4), 16);
    }

    private static void promise7NoneAndFull() {
        BrotherAutomata x = new BrotherAutomata();
        Check.due("7 none", x.ruleCount(), 0);
        full(x);
        Check.due("7 full", x.ruleCount(), 16);
        x.addRule(0, 0, 0, 0, 0);
        Check.due("7 not more than full", x.ruleCount(), 16);
        for (int rule = 15; rule >= 0; rule--) {
            x.removeRule(rule);
            Check.due("7 one less", x.ruleCount(), rule);
        }
        x.removeRule(0);
        Check.due("7 not less than none", x.ruleCount(), 0);
    }

    private static void promise8NoneAndAll() {
        for (int states = 1; states <= 6; states++) {
            BrotherAutomata x = withStates(states);
            Check.due("8 none", x.finalStates(), 0);
            for (int state = 0; state < states; state++) {
                x.setFinal(state, true);
            }
            Check.due("8 all", x.finalStates(), (1 << states) - 1);
            x.setFinal(0, false);
            Check.due("8 all but 0", x.finalStates(), (1 << states) - 2);
            x.reset(states);
            Check.due("8 none after reset", x.finalStates(), 0);
        }
    }

    private static void promise9Size() {
        BrotherAutomata x = new BrotherAutomata();
        for (int below : BELOW) {
            Check.due("9 treeCount(" + below + ")", x.treeCount(below), INVALID);
        }
        for (int above : NO_SIZES) {
            Check.due("9 treeCount(" + above + ")", x.treeCount(above), INVALID);
        }
        Check.due("9 treeCount(0)", x.treeCount(0), INVALID);
        Check.due("9 treeCount(1)", x.treeCount(1), 2);
        Check.due("9 treeCount(7)", x.treeCount(7), 1722);
    }

    private static void promise10Arguments() {
        BrotherAutomata x = new BrotherAutomata();
        for (int symbol = 0; symbol < 5; symbol++) {
            for (int below : BELOW) {
                Check.due("10 symbol", x.treeOf(below, 0, 0), INVALID);
                Check.due("10 first " + below, x.treeOf(symbol, below, 0), INVALID);
                Check.due("10 second " + below, x.treeOf(symbol, 0, below), INVALID);
            }
            for (int above : NO_TREES) {
                Check.due("10 symbol", x.treeOf(above, 0, 0), INVALID);
                Check.due("10 first " + above, x.treeOf(symbol, above, 0), INVALID);
                Check.due("10 second " + above, x.treeOf(symbol, 0, above), INVALID);
            }
            Check.due("10 last first", x.treeOf(symbol, 2277, 0), symbol < 2 ? INVALID : LIMIT);
            Check.due("10 last second", x.treeOf(symbol, 0, 2277), symbol < 3 ? INVALID : LIMIT);
            Check.due("10 second 1", x.treeOf(symbol, 0, 1), symbol < 3 ? INVALID : 4 * symbol - 5);
            Check.due("10 last fitting second", x.treeOf(symbol, 0, 153), symbol < 3 ? INVALID : 660 * symbol - 909);
            Check.due("10 too great a second", x.treeOf(symbol, 0, 154), symbol < 3 ? INVALID : LIMIT);
            Check.due("10 last fitting first", x.treeOf(symbol, 153, 0), symbol < 2 ? INVALID
                    : symbol == 2 ? 267 : 660 * symbol - 364);
            Check.due("10 too great a first", x.treeOf(symbol, 154, 0), symbol < 2 ? INVALID
                    : symbol == 2 ? 556 : LIMIT);
        }
        Check.due("10 symbol 5", x.treeOf(5, 0, 0), INVALID);
        Check.due("10 constant with first 1", x.treeOf(1, 1, 0), INVALID);
        Check.due("10 constant with second 1", x.treeOf(0, 0, 1), INVALID);
    }

    private static void promise11To16Tree() {
        BrotherAutomata x = universal(2);
        for (int below : BELOW) {
            noTree(x, below);
        }
        for (int above : NO_TREES) {
            noTree(x, above);
        }
        Check.due("11 first tree", x.symbolOf(0), 0);
        Check.due("11 last tree", x.symbolOf(2277), 4);
        Check.due("12 first tree", x.childOf(0, 0), MISSING);
        Check.due("12 last tree", x.childOf(2277, 0), 153);
        Check.due("13 first tree", x.sizeOf(0), 1);
        Check.due("13 last tree", x.sizeOf(2277), 7);
        Check.due("14 first tree", x.heightOf(0), 0);
        Check.due("14 last tree", x.heightOf(2277), 3);
        Check.due("15 last tree", x.subsetOf(2277), 1);
        Check.due("15 first tree", x.subsetOf(0), 1);
        Check.due("16 last tree", x.accepts(2277), 1);
        Check.due("16 first tree", x.accepts(0), 1);
        x.setFinal(0, false);
        Check.due("16 last tree, not accepted", x.accepts(2277), 0);
        Check.due("16 first tree, not accepted", x.accepts(0), 0);
    }

    private static void noTree(BrotherAutomata x, int none) {
        Check.due("11 symbolOf(" + none + ")", x.symbolOf(none), INVALID);
        Check.due("12 childOf(" + none + ", 0)", x.childOf(none, 0), INVALID);
        Check.due("12 childOf(" + none + ", 1)", x.childOf(none, 1), INVALID);
        Check.due("13 sizeOf(" + none + ")", x.sizeOf(none), INVALID);
        Check.due("14 heightOf(" + none + ")", x.heightOf(none), INVALID);
        Check.due("15 subsetOf(" + none + ")", x.subsetOf(none), INVALID);
        Check.due("16 accepts(" + none + ")", x.accepts(none), INVALID);
        Check.due("17 runCount(" + none + ", 0)", x.runCount(none, 0), INVALID);
        Check.due("17 runCount(" + none + ", 1)", x.runCount(none, 1), INVALID);
    }

    private static void promise12Index() {
        BrotherAutomata x = new BrotherAutomata();
        for (int tree : new int[] {0, 1, 2, 8, 2277}) {
            for (int below : BELOW) {
                Check.due("12 childOf(" + tree + ", " + below + ")", x.childOf(tree, below), INVALID);
            }
            for (int above : new int[] {2, 3, 4, 32, 256, 65536, MAX - 1, MAX}) {
                Check.due("12 childOf(" + tree + ", " + above + ")", x.childOf(tree, above), INVALID);
            }
        }
        Check.due("12 constant, 0", x.childOf(1, 0), MISSING);
        Check.due("12 constant, 1", x.childOf(1, 1), MISSING);
        Check.due("12 unary, 0", x.childOf(3, 0), 1);
        Check.due("12 unary, 1", x.childOf(3, 1), MISSING);
        Check.due("12 binary, 0", x.childOf(8, 0), 1);
        Check.due("12 binary, 1", x.childOf(8, 1), 0);
        Check.due("12 greatest child", x.childOf(957, 0), 555);
        Check.due("12 it has no brother", x.childOf(957, 1), MISSING);
    }

    private static void promise17TreeAndState() {
        for (int states = 1; states <= 6; states++) {
            BrotherAutomata x = universal(states);
            for (int none : noStates(states)) {
                Check.due("17 runCount(0, " + none + ")", x.runCount(0, none), INVALID);
                Check.due("17 runCount(2277, " + none + ")", x.runCount(2277, none), INVALID);
            }
            Check.due("17 no tree, no state", x.runCount(2278, states), INVALID);
            Check.due("17 first tree, state 0", x.runCount(0, 0), 1);
            Check.due("17 last tree, state 0", x.runCount(2277, 0), 1);
            Check.due("17 first tree, last state", x.runCount(0, states - 1), states == 1 ? 1 : 0);
            Check.due("17 last tree, last state", x.runCount(2277, states - 1), states == 1 ? 1 : 0);
            x.swapStates(0, states - 1);
            Check.due("17 last tree, last state", x.runCount(2277, states - 1), 1);
        }
    }

    private static void promise17NoneAndGreatest() {
        BrotherAutomata x = withStates(6);
        Check.due("17 no rules", x.runCount(2277, 5), 0);
        for (int rule = 0; rule < 14; rule++) {
            x.addRule(2, 5, 0, 0, 5);
        }
        Check.due("17 no rule for the leaf", x.runCount(556, 5), 0);
        x.addRule(0, 0, 0, 0, 5);
        x.addRule(0, 0, 0, 0, 5);
        // No 16 rules have more runs on seven nodes: 14 * 14 * 14 * 14 * 14 * 14 * 2.
        Check.due("17 the most runs there can be", x.runCount(556, 5), 15059072);
        Check.due("17 none to another state", x.runCount(556, 4), 0);
        x.reset(1);
        for (int rule = 0; rule < 16; rule++) {
            x.addRule(rule < 9 ? 1 : 4, 0, 0, 0, 0);
        }
        Check.due("17 full tree, 9^4 * 7^3", x.runCount(x.treeOf(4, 13, 13), 0), 2250423);
        Check.due("17 comb to the right", x.runCount(x.treeOf(4, 1, x.treeOf(4, 1, 13)), 0), 2250423);
        Check.due("17 comb to the left", x.runCount(x.treeOf(4, x.treeOf(4, 13, 1), 1), 0), 2250423);
    }

    private static void promise18NoneAndAll() {
        int[] counts = {2, 2, 10, 26, 114, 402, 1722};
        for (int states = 1; states <= 6; states += 5) {
            BrotherAutomata x = universal(states);
            for (int size = 1; size <= 7; size++) {
                Check.due("18 all of size " + size, x.acceptedCount(size), counts[size - 1]);
                Check.due("19 last of size " + size, x.sizeOf(x.acceptedTree(size, counts[size - 1] - 1)), size);
                Check.due("19 behind it", x.acceptedTree(size, counts[size - 1]), MISSING);
            }
            x.setFinal(0, false);
            for (int size = 1; size <= 7; size++) {
                Check.due("18 none of size " + size, x.acceptedCount(size), 0);
                Check.due("19 none of size " + size, x.acceptedTree(size, 0), MISSING);
            }
        }
    }

    private static void promise18And19Size() {
        BrotherAutomata x = universal(1);
        for (int below : BELOW) {
            Check.due("18 acceptedCount(" + below + ")", x.acceptedCount(below), INVALID);
            Check.due("19 acceptedTree(" + below + ", 0)", x.acceptedTree(below, 0), INVALID);
        }
        for (int above : NO_SIZES) {
            Check.due("18 acceptedCount(" + above + ")", x.acceptedCount(above), INVALID);
            Check.due("19 acceptedTree(" + above + ", 0)", x.acceptedTree(above, 0), INVALID);
        }
        Check.due("18 size 0", x.acceptedCount(0), INVALID);
        Check.due("19 size 0", x.acceptedTree(0, 0), INVALID);
        Check.due("18 size 1", x.acceptedCount(1), 2);
        Check.due("19 size 1", x.acceptedTree(1, 0), 0);
        Check.due("18 size 7", x.acceptedCount(7), 1722);
        Check.due("19 size 7", x.acceptedTree(7, 0), 556);
    }

    private static void promise19Index() {
        BrotherAutomata x = universal(1);
        for (int below : BELOW) {
            Check.due("19 acceptedTree(1, " + below + ")", x.acceptedTree(1, below), INVALID);
            Check.due("19 acceptedTree(7, " + below + ")", x.acceptedTree(7, below), INVALID);
        }
        for (int above : new int[] {1722, 1723, 2278, 65536, MAX - 1, MAX}) {
            Check.due("19 acceptedTree(7, " + above + ")", x.acceptedTree(7, above), MISSING);
        }
        Check.due("19 first", x.acceptedTree(7, 0), 556);
        Check.due("19 second", x.acceptedTree(7, 1), 557);
        Check.due("19 last", x.acceptedTree(7, 1721), 2277);
        x.removeRule(2);
        Check.due("19 none of size 2", x.acceptedTree(2, 0), MISSING);
        Check.due("19 first without unary ones", x.acceptedTree(3, 0), 6);
        Check.due("19 last without unary ones", x.acceptedTree(3, 7), 13);
        Check.due("19 behind the last", x.acceptedTree(3, 8), MISSING);
    }

    private static void promise20Set() {
        for (int states = 1; states <= 6; states++) {
            BrotherAutomata x = withStates(states);
            int sets = 1 << states;
            for (int state = 0; state < states; state++) {
                x.addRule(1, 0, 0, 0, state);
            }
            for (int below : BELOW) {
                Check.due("20 treesOfSet(" + below + ")", x.treesOfSet(below), INVALID);
            }
            for (int above : new int[] {sets, sets + 1, 64, 65, 128, 256, 65536, MAX - 1, MAX}) {
                Check.due("20 treesOfSet(" + above + ")", x.treesOfSet(above), INVALID);
            }
            Check.due("20 the empty set", x.treesOfSet(0), 2);
            Check.due("20 the set of all states", x.treesOfSet(sets - 1), 1);
            Check.due("20 the set before it", x.treesOfSet(sets - 2), states == 1 ? 2 : 0);
        }
    }

    private static void promise21OneAndAllSets() {
        for (int states = 1; states <= 6; states++) {
            Check.due("21 only the empty set", withStates(states).reachedSets(), 1);
            Check.due("21 only {0}", universal(states).reachedSets(), 1);
            BrotherAutomata x = withStates(states);
            allSets(x, states);
            Check.due("21 all sets of " + states + " states", x.reachedSets(), 1 << states);
            x.reset(states);
            Check.due("21 after reset", x.reachedSets(), 1);
        }
    }

    /**
     * A set is a row of bits. Symbol 2 turns the row about by one place and keeps state 0, so {0} grows to all
     * states; 3(t, t) moves the row and brings in a 0. From the full row the two bring in any bits in turn.
     */
    private static void allSets(BrotherAutomata x, int states) {
        x.addRule(0, 0, 0, 0, 0);
        x.addRule(2, 0, 0, 0, 0);
        for (int state = 0; state < states; state++) {
            x.addRule(2, state, 0, 0, (state + 1) % states);
        }
        for (int state = 0; state < states - 1; state++) {
            x.addRule(3, state, state, 1, state + 1);
        }
    }

    private static void promise22State() {
        for (int states = 1; states <= 6; states++) {
            BrotherAutomata x = withStates(states);
            for (int none : noStates(states)) {
                Check.due("22 isReachable(" + none + ")", x.isReachable(none), INVALID);
            }
            Check.due("22 state 0, no rules", x.isReachable(0), 0);
            Check.due("22 last state, no rules", x.isReachable(states - 1), 0);
            x.addRule(1, 0, 0, 0, states - 1);
            Check.due("22 last state", x.isReachable(states - 1), 1);
            Check.due("22 state 0", x.isReachable(0), states == 1 ? 1 : 0);
            x.addRule(3, states - 1, states - 1, 1, 0);
            Check.due("22 state 0, by one tree", x.isReachable(0), 1);
            for (int none : noStates(states)) {
                Check.due("22 isReachable(" + none + ")", x.isReachable(none), INVALID);
            }
        }
    }

    /** Each question is the first one after an edit, after an undo and after reset, and holds for what is now. */
    private static void promise20To27FirstAsked() {
        int[] whenUniversal = {2, 1, 1, 0, 1, 1, 1, 0};
        int[] withoutConstant = {2, 2, 1, 0, 0, 0, 1, 0};
        int[] withoutRules = {0, 1, 0, 1, 0, 0, 1, MISSING};
        for (int question = 0; question < 8; question++) {
            BrotherAutomata x = universal(2);
            Check.due("question " + question + " after edits", asked(x, question), whenUniversal[question]);
            x.removeRule(1);
            Check.due("question " + question + " after removeRule", asked(x, question), withoutConstant[question]);
            x.undo();
            Check.due("question " + question + " after undo", asked(x, question), whenUniversal[question]);
            x.reset(2);
            Check.due("question " + question + " after reset", asked(x, question), withoutRules[question]);
            x.addRule(1, 0, 0, 0, 0);
            x.setFinal(0, true);
            int[] oneTree = {1, 2, 1, 0, 0, 0, 1, 0};
            Check.due("question " + question + " after addRule", asked(x, question), oneTree[question]);
            x.swapStates(0, 1);
            int[] swapped = {0, 2, 0, 0, 0, 0, 1, 0};
            Check.due("question " + question + " after swapStates", asked(x, question), swapped[question]);
            x.setFinal(1, false);
            int[] noFinal = {0, 2, 0, 1, 0, 0, 1, MISSING};
            Check.due("question " + question + " after setFinal", asked(x, question), noFinal[question]);
        }
    }

    private static int asked(BrotherAutomata x, int question) {
        return switch (question) {
            case 0 -> x.treesOfSet(1);
            case 1 -> x.reachedSets();
            case 2 -> x.isReachable(0);
            case 3 -> x.isEmpty();
            case 4 -> x.isUniversal();
            case 5 -> x.isComplete();
            case 6 -> x.isDeterministic();
            default -> x.leastHeight();
        };
    }

    private static void promise23To26WithoutRules() {
        for (int states = 1; states <= 6; states++) {
            BrotherAutomata x = withStates(states);
            for (int state = 0; state < states; state++) {
                x.setFinal(state, true);
            }
            Check.due("23 empty", x.isEmpty(), 1);
            Check.due("24 not universal", x.isUniversal(), 0);
            Check.due("25 not complete", x.isComplete(), 0);
            Check.due("26 deterministic", x.isDeterministic(), 1);
            Check.due("27 no height", x.leastHeight(), MISSING);
            x = universal(states);
            Check.due("23 not empty", x.isEmpty(), 0);
            Check.due("24 universal", x.isUniversal(), 1);
            Check.due("25 complete", x.isComplete(), 1);
            Check.due("26 deterministic", x.isDeterministic(), 1);
            Check.due("27 height of a constant", x.leastHeight(), 0);
            x.addRule(4, 0, 0, 2, states - 1);
            Check.due("26 only with one state", x.isDeterministic(), states == 1 ? 1 : 0);
        }
    }

    private static void promise27NoneLeastAndGreat() {
        BrotherAutomata x = withStates(6);
        x.addRule(1, 0, 0, 0, 0);
        for (int state = 0; state < 5; state++) {
            x.addRule(2, state, 0, 0, state + 1);
        }
        x.addRule(2, 5, 0, 0, 0);
        x.addRule(3, 0, 0, 2, 0);
        Check.due("27 no final state", x.leastHeight(), MISSING);
        x.setFinal(0, true);
        Check.due("27 least of all", x.leastHeight(), 0);
        x.setFinal(0, false);
        x.setFinal(5, true);
        Check.due("27 a chain", x.leastHeight(), 5);
        x.reset(6);
        x.addRule(1, 0, 0, 0, 0);
        for (int state = 0; state < 4; state++) {
            x.addRule(2, state, 0, 0, state + 1);
        }
        x.addRule(2, 4, 0, 0, 0);
        x.addRule(3, 4, 4, 2, 5);
        x.setFinal(5, true);
        Check.due("27 two trees of {4}, of the heights 4 and 9", x.leastHeight(), 10);
        Check.due("27 no small tree is accepted", x.acceptedCount(7), 0);
        x.removeRule(5);
        Check.due("27 only one tree of {4}", x.leastHeight(), MISSING);
        x.undo();
        Check.due("27 two again", x.leastHeight(), 10);
    }

    /** The least height is not that of the first set, nor that of the last one. */
    private static void promise27LeastOfSeveral() {
        int[][] orders = {{0, 1, 2}, {0, 2, 1}, {1, 0, 2}, {1, 2, 0}, {2, 0, 1}, {2, 1, 0}};
        for (int[] order : orders) {
            BrotherAutomata x = withStates(4);
            x.addRule(0, 0, 0, 0, 3);
            x.addRule(2, 3, 0, 0, order[0]);
            x.addRule(2, order[0], 0, 0, order[1]);
            x.addRule(2, order[1], 0, 0, order[2]);
            for (int place = 2; place >= 0; place--) {
                x.setFinal(order[place], true);
                Check.due("27 least of " + (3 - place), x.leastHeight(), place + 1);
            }
        }
    }

    private static void promise28Undo() {
        BrotherAutomata x = new BrotherAutomata();
        Check.due("28 none", x.undo(), MISSING);
        for (int edit = 0; edit < 6; edit++) {
            x.addRule(0, 0, 0, 0, 0);
        }
        for (int left = 4; left >= 0; left--) {
            Check.due("28 still to undo", x.undo(), left);
        }
        Check.due("28 none", x.undo(), MISSING);
        Check.due("28 the first edit stays", x.ruleCount(), 1);
        full(x);
        Check.due("28 the 16th rule goes", x.undo(), 4);
        Check.due("28 fifteen rules", x.runCount(0, 0), 15);
    }
}

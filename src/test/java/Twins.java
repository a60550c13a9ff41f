import java.util.ArrayList;
import java.util.List;

/**
 * Shows that calls change nothing: two objects are made by the same calls, one of them is given the calls in
 * question, and then both must answer alike, also after each number of undos. New objects are made for each
 * comparison, so that none of them comes near its 512th call.
 */
final class Twins {
    /** More undos than can be: the last ones must be refused for both. */
    private static final int UNDOS = 6;

    interface Calls {
        void on(BrotherAutomata x);
    }

    private Twins() {
    }

    static void stayAlike(String what, Calls making, Calls inQuestion) {
        for (int undos = 0; undos <= UNDOS; undos++) {
            compare(what + ", " + undos + " undos", undone(making, inQuestion, undos), undone(making, x -> { }, undos));
        }
        compare(what + ", rule by rule", ruleByRule(making, inQuestion), ruleByRule(making, x -> { }));
    }

    private static void compare(String what, List<String> got, List<String> want) {
        Check.due(what + ": number of answers", got.size(), want.size());
        for (int place = 0; place < Math.min(got.size(), want.size()); place++) {
            Check.holds(what + ": " + got.get(place) + ", before " + want.get(place),
                    got.get(place).equals(want.get(place)));
        }
    }

    private static List<String> undone(Calls making, Calls inQuestion, int undos) {
        BrotherAutomata x = new BrotherAutomata();
        making.on(x);
        inQuestion.on(x);
        List<String> answers = new ArrayList<>();
        for (int undo = 0; undo < undos; undo++) {
            answers.add("undo() = " + x.undo());
        }
        askAutomaton(x, answers);
        askSmallTrees(x, answers);
        return answers;
    }

    private static void askAutomaton(BrotherAutomata x, List<String> answers) {
        answers.add("ruleCount() = " + x.ruleCount());
        answers.add("finalStates() = " + x.finalStates());
        answers.add("reachedSets() = " + x.reachedSets());
        answers.add("isEmpty() = " + x.isEmpty());
        answers.add("isUniversal() = " + x.isUniversal());
        answers.add("isComplete() = " + x.isComplete());
        answers.add("isDeterministic() = " + x.isDeterministic());
        answers.add("leastHeight() = " + x.leastHeight());
        for (int state = 0; state <= 6; state++) {
            answers.add("isReachable(" + state + ") = " + x.isReachable(state));
        }
        for (int set = 0; set <= 64; set++) {
            answers.add("treesOfSet(" + set + ") = " + x.treesOfSet(set));
        }
    }

    private static void askSmallTrees(BrotherAutomata x, List<String> answers) {
        for (int size = 1; size <= 7; size++) {
            answers.add("acceptedCount(" + size + ") = " + x.acceptedCount(size));
            answers.add("acceptedTree(" + size + ", 0) = " + x.acceptedTree(size, 0));
        }
        for (int tree = 0; tree < 40; tree++) {
            answers.add("subsetOf(" + tree + ") = " + x.subsetOf(tree));
        }
        for (int tree = 0; tree < 14; tree++) {
            for (int state = 0; state < 6; state++) {
                answers.add("runCount(" + tree + ", " + state + ") = " + x.runCount(tree, state));
            }
        }
    }

    /** The order of the rules is seen by what is left when the first one is taken away, again and again. */
    private static List<String> ruleByRule(Calls making, Calls inQuestion) {
        BrotherAutomata x = new BrotherAutomata();
        making.on(x);
        inQuestion.on(x);
        List<String> answers = new ArrayList<>();
        for (int removed = 0; removed <= 16; removed++) {
            answers.add("removeRule(0) = " + x.removeRule(0));
            for (int tree = 0; tree < 14; tree++) {
                answers.add(removed + " removed, subsetOf(" + tree + ") = " + x.subsetOf(tree));
            }
        }
        return answers;
    }
}

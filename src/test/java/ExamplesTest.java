/** The four examples of the document, each on a new object. */
final class ExamplesTest {
    private ExamplesTest() {
    }

    public static void main(String[] args) {
        ruleWithEqual();
        ruleWithDifferent();
        numbersOfSmallTrees();
        sameContentAndSwappedStates();
        Check.close("ExamplesTest");
    }

    private static void ruleWithEqual() {
        BrotherAutomata x = new BrotherAutomata();
        Check.due("example 1, addRule", x.addRule(0, 0, 0, 0, 0), 0);
        Check.due("example 1, addRule", x.addRule(3, 0, 0, 1, 1), 1);
        Check.due("example 1, setFinal", x.setFinal(1, true), 1);
        Check.due("example 1, treeOf", x.treeOf(3, 0, 0), 6);
        Check.due("example 1, accepts", x.accepts(4), 0);
        Check.due("example 1, acceptedCount", x.acceptedCount(3), 1);
        Check.due("example 1, leastHeight", x.leastHeight(), 1);
        Check.due("example 1, isEmpty", x.isEmpty(), 0);
    }

    private static void ruleWithDifferent() {
        BrotherAutomata x = new BrotherAutomata();
        Check.due("example 2, addRule", x.addRule(0, 0, 0, 0, 0), 0);
        Check.due("example 2, addRule", x.addRule(3, 0, 0, 2, 1), 1);
        Check.due("example 2, setFinal", x.setFinal(1, true), 1);
        Check.due("example 2, isEmpty", x.isEmpty(), 1);
        Check.due("example 2, treesOfSet", x.treesOfSet(1), 1);
        Check.due("example 2, addRule", x.addRule(2, 0, 0, 0, 0), 2);
        Check.due("example 2, treesOfSet", x.treesOfSet(1), 2);
        Check.due("example 2, leastHeight", x.leastHeight(), 2);
    }

    private static void numbersOfSmallTrees() {
        BrotherAutomata x = new BrotherAutomata();
        Check.due("example 3, treeCount", x.treeCount(3), 10);
        Check.due("example 3, childOf", x.childOf(2, 0), 0);
        Check.due("example 3, symbolOf", x.symbolOf(4), 2);
        Check.due("example 3, treeOf", x.treeOf(2, 2, 0), 4);
        Check.due("example 3, childOf", x.childOf(0, 0), -3);
        Check.due("example 3, treeOf", x.treeOf(3, 40, 0), 1390);
        Check.due("example 3, sizeOf", x.sizeOf(2278), -1);
    }

    private static void sameContentAndSwappedStates() {
        BrotherAutomata x = new BrotherAutomata();
        Check.due("example 4, addRule", x.addRule(0, 0, 0, 1, 0), -1);
        Check.due("example 4, addRule", x.addRule(0, 0, 0, 0, 0), 0);
        Check.due("example 4, addRule", x.addRule(0, 0, 0, 0, 0), 1);
        Check.due("example 4, addRule", x.addRule(2, 0, 0, 0, 1), 2);
        Check.due("example 4, runCount", x.runCount(2, 1), 2);
        Check.due("example 4, subsetOf", x.subsetOf(2), 2);
        Check.due("example 4, swapStates", x.swapStates(0, 1), 3);
        Check.due("example 4, subsetOf", x.subsetOf(2), 1);
        Check.due("example 4, isComplete", x.isComplete(), 0);
    }
}

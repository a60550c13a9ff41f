import java.util.Arrays;
import java.util.Random;

/**
 * The subset construction against all trees of a height of at most 3, one by one: each tree has a place in a row,
 * and equal trees have the same place. So equal and different brothers are seen, not counted.
 */
final class LowTreesTest {
    private static final int HIGHEST = 3;
    private static final int AUTOMATA = 120;

    /** The trees of a height of at most h have the places below LOW[h]. */
    private static final int[] LOW = {2, 12, 302, 182712};

    private final int[] symbols = new int[LOW[HIGHEST]];
    private final int[] firsts = new int[LOW[HIGHEST]];
    private final int[] seconds = new int[LOW[HIGHEST]];
    private final int[] heights = new int[LOW[HIGHEST]];
    private final int[] subsets = new int[LOW[HIGHEST]];
    private int made = 0;

    private LowTreesTest() {
    }

    public static void main(String[] args) {
        LowTreesTest test = new LowTreesTest();
        test.makeTrees();
        Random random = new Random(28);
        for (int run = 0; run < AUTOMATA; run++) {
            int states = 1 + run % 6;
            test.compare("automaton " + run + ", ", states, rules(random, states, 4 + random.nextInt(13)));
        }
        Check.close("LowTreesTest");
    }

    private void makeTrees() {
        make(0, 0, 0, 0);
        make(1, 0, 0, 0);
        for (int height = 1; height <= HIGHEST; height++) {
            int below = made;
            for (int first = 0; first < below; first++) {
                if (heights[first] == height - 1) {
                    make(2, first, 0, height);
                }
                for (int second = 0; second < below; second++) {
                    if (Math.max(heights[first], heights[second]) == height - 1) {
                        make(3, first, second, height);
                        make(4, first, second, height);
                    }
                }
            }
            Check.due("trees of a height of at most " + height, made, LOW[height]);
        }
    }

    private void make(int symbol, int first, int second, int height) {
        symbols[made] = symbol;
        firsts[made] = first;
        seconds[made] = second;
        heights[made] = height;
        made++;
    }

    /** A rule for a constant comes first, else most automata would reach nothing. */
    private static int[][] rules(Random random, int states, int count) {
        int[][] rules = new int[count][];
        for (int rule = 0; rule < count; rule++) {
            int symbol = rule == 0 ? random.nextInt(2) : random.nextInt(5);
            rules[rule] = new int[] {symbol, symbol < 2 ? 0 : random.nextInt(states),
                symbol < 3 ? 0 : random.nextInt(states), symbol < 3 ? 0 : random.nextInt(3), random.nextInt(states)};
        }
        return rules;
    }

    private void findSubsets(int[][] rules) {
        for (int tree = 0; tree < made; tree++) {
            int set = 0;
            for (int[] rule : rules) {
                if (leads(rule, tree)) {
                    set |= 1 << rule[4];
                }
            }
            subsets[tree] = set;
        }
    }

    private boolean leads(int[] rule, int tree) {
        if (rule[0] != symbols[tree]) {
            return false;
        }
        boolean equal = firsts[tree] == seconds[tree];
        return (rule[0] < 2 || (subsets[firsts[tree]] >> rule[1] & 1) == 1)
                && (rule[0] < 3 || (subsets[seconds[tree]] >> rule[2] & 1) == 1)
                && (rule[3] == 0 || rule[3] == (equal ? 1 : 2));
    }

    private void compare(String name, int states, int[][] rules) {
        findSubsets(rules);
        BrotherAutomata x = new BrotherAutomata();
        x.reset(states);
        for (int[] rule : rules) {
            x.addRule(rule[0], rule[1], rule[2], rule[3], rule[4]);
        }
        int[] low = numbers(HIGHEST);
        boolean grew = !Arrays.equals(low, numbers(HIGHEST - 1));
        compareSets(name, x, states, low, grew);
        for (int state = 0; state < states; state++) {
            x.setFinal(state, true);
            compareAccepted(name + "state " + state + " final, ", x, 1 << state, grew);
            x.setFinal(state, false);
        }
        x.setFinal(0, true);
        x.setFinal(states - 1, true);
        compareAccepted(name + "two states final, ", x, 1 | 1 << states - 1, grew);
    }

    /** How many trees of at most this height have each subset; 2 stands for more, too. */
    private int[] numbers(int height) {
        int[] numbers = new int[64];
        for (int tree = 0; tree < LOW[height]; tree++) {
            numbers[subsets[tree]] = Math.min(2, numbers[subsets[tree]] + 1);
        }
        return numbers;
    }

    /** Higher trees can only add to the numbers; where those of height 3 added nothing, no higher ones do. */
    private static void compareSets(String name, BrotherAutomata x, int states, int[] low, boolean grew) {
        int reached = 0;
        boolean deterministic = true;
        for (int set = 0; set < 1 << states; set++) {
            int answer = x.treesOfSet(set);
            if (grew) {
                Check.holds(name + "treesOfSet(" + set + ") is not below " + low[set], answer >= low[set]);
            } else {
                Check.due(name + "treesOfSet(" + set + ")", answer, low[set]);
            }
            if (low[set] > 0) {
                reached++;
                deterministic &= Integer.bitCount(set) <= 1;
            }
        }
        if (!grew || low[0] > 0) {
            Check.due(name + "isComplete", x.isComplete(), low[0] > 0 ? 0 : 1);
        }
        if (!grew || !deterministic) {
            Check.due(name + "isDeterministic", x.isDeterministic(), deterministic ? 1 : 0);
        }
        if (!grew) {
            Check.due(name + "reachedSets", x.reachedSets(), reached);
        }
    }

    private void compareAccepted(String name, BrotherAutomata x, int finals, boolean grew) {
        int least = HIGHEST + 1;
        boolean all = true;
        for (int tree = 0; tree < made; tree++) {
            boolean accepted = (subsets[tree] & finals) != 0;
            all &= accepted;
            least = accepted ? Math.min(least, heights[tree]) : least;
        }
        if (least <= HIGHEST) {
            Check.due(name + "leastHeight", x.leastHeight(), least);
            Check.due(name + "isEmpty", x.isEmpty(), 0);
        } else if (grew) {
            Check.holds(name + "leastHeight is none of the low ones", x.leastHeight() > HIGHEST || x.leastHeight() == -3);
        } else {
            Check.due(name + "leastHeight", x.leastHeight(), -3);
            Check.due(name + "isEmpty", x.isEmpty(), 1);
        }
        if (!all || !grew) {
            Check.due(name + "isUniversal", x.isUniversal(), all ? 1 : 0);
        }
        if (Integer.bitCount(finals) == 1 && (least <= HIGHEST || !grew)) {
            Check.due(name + "isReachable", x.isReachable(Integer.numberOfTrailingZeros(finals)),
                    least <= HIGHEST ? 1 : 0);
        }
    }
}

import java.util.ArrayDeque;
import java.util.ArrayList;
import java.util.Deque;
import java.util.HashMap;
import java.util.List;
import java.util.Map;

/**
 * The document once more, as near to its words as can be, with the Java library: trees are objects, a subset
 * is found by trying every rule, and the trees of a set are shown, not counted.
 */
final class NaiveModel {
    private static final int INVALID = -1;
    private static final int LIMIT = -2;
    private static final int MISSING = -3;

    /** Equal trees are the same object, see treeWith. */
    private static final class Tree {
        final int symbol;
        final Tree first;
        final Tree second;
        final int size;
        final int height;
        final int id;
        int number = -1;

        Tree(int symbol, Tree first, Tree second, int id) {
            this.symbol = symbol;
            this.first = first;
            this.second = second;
            this.id = id;
            int nodes = 1;
            int above = 0;
            for (Tree child : new Tree[] {first, second}) {
                if (child != null) {
                    nodes = (int) Math.min(1000000L, (long) nodes + child.size);
                    above = Math.max(above, child.height + 1);
                }
            }
            size = nodes;
            height = above;
        }
    }

    private record Rule(int symbol, int first, int second, int constraint, int target) {
        boolean has(int state) {
            return target == state || symbol >= 2 && first == state || symbol >= 3 && second == state;
        }

        Rule swapped(int a, int b) {
            return new Rule(symbol, symbol >= 2 ? other(first, a, b) : first,
                    symbol >= 3 ? other(second, a, b) : second, constraint, other(target, a, b));
        }

        private static int other(int state, int a, int b) {
            return state == a ? b : state == b ? a : state;
        }
    }

    private record Content(List<Rule> rules, int finals) {
    }

    private final Map<Long, Tree> known = new HashMap<>();
    private final List<Tree> small = new ArrayList<>();
    private final Map<Tree, Integer> subsets = new HashMap<>();
    private final Map<Integer, List<Tree>> shown = new HashMap<>();
    private final Deque<Content> past = new ArrayDeque<>();
    private int states = 2;
    private List<Rule> rules = List.of();
    private int finals = 0;

    NaiveModel() {
        List<Tree> all = new ArrayList<>();
        for (int size = 1; size <= 7; size++) {
            List<Tree> now = new ArrayList<>();
            if (size == 1) {
                now.add(treeWith(0, null, null));
                now.add(treeWith(1, null, null));
            }
            for (Tree first : all) {
                if (first.size == size - 1) {
                    now.add(treeWith(2, first, null));
                }
                for (Tree second : all) {
                    if (first.size + second.size == size - 1) {
                        now.add(treeWith(3, first, second));
                        now.add(treeWith(4, first, second));
                    }
                }
            }
            all.addAll(now);
        }
        small.addAll(all);
        // Trees of one size are sorted when those of smaller sizes have their numbers.
        for (int size = 1; size <= 7; size++) {
            final int wanted = size;
            small.sort((a, b) -> a.size != b.size ? a.size - b.size
                    : a.size != wanted ? 0
                    : a.symbol != b.symbol ? a.symbol - b.symbol
                    : numberOf(a.first) != numberOf(b.first) ? numberOf(a.first) - numberOf(b.first)
                    : numberOf(a.second) - numberOf(b.second));
            for (int place = 0; place < small.size(); place++) {
                if (small.get(place).size == wanted) {
                    small.get(place).number = place;
                }
            }
        }
    }

    private static int numberOf(Tree tree) {
        return tree == null ? 0 : tree.number;
    }

    private Tree treeWith(int symbol, Tree first, Tree second) {
        long key = ((first == null ? 0 : first.id + 1L) * 10000000 + (second == null ? 0 : second.id + 1)) * 5 + symbol;
        Tree tree = known.get(key);
        if (tree == null) {
            tree = new Tree(symbol, first, second, known.size());
            known.put(key, tree);
        }
        return tree;
    }

    int reset(int newStates) {
        if (newStates < 1 || newStates > 6) {
            return INVALID;
        }
        int previous = states;
        states = newStates;
        past.clear();
        become(List.of(), 0);
        return previous;
    }

    private void become(List<Rule> newRules, int newFinals) {
        rules = newRules;
        finals = newFinals;
        subsets.clear();
        shown.clear();
    }

    private void edit(List<Rule> newRules, int newFinals) {
        past.push(new Content(rules, finals));
        if (past.size() > 5) {
            past.removeLast();
        }
        become(newRules, newFinals);
    }

    int undo() {
        if (past.isEmpty()) {
            return MISSING;
        }
        Content before = past.pop();
        become(before.rules(), before.finals());
        return past.size();
    }

    private boolean isState(int state) {
        return state >= 0 && state < states;
    }

    int setFinal(int state, boolean isFinal) {
        if (!isState(state)) {
            return INVALID;
        }
        int without = finals & ~(1 << state);
        edit(rules, isFinal ? without + (1 << state) : without);
        return Integer.bitCount(finals);
    }

    int addRule(int symbol, int first, int second, int constraint, int target) {
        if (symbol < 0 || symbol > 4 || !isState(target)) {
            return INVALID;
        }
        if (symbol < 2 ? first != 0 : !isState(first)) {
            return INVALID;
        }
        if (symbol < 3 ? second != 0 || constraint != 0 : !isState(second) || constraint < 0 || constraint > 2) {
            return INVALID;
        }
        if (rules.size() == 16) {
            return LIMIT;
        }
        List<Rule> more = new ArrayList<>(rules);
        more.add(new Rule(symbol, first, second, constraint, target));
        edit(more, finals);
        return rules.size() - 1;
    }

    int removeRule(int rule) {
        if (rule < 0 || rule >= rules.size()) {
            return INVALID;
        }
        List<Rule> less = new ArrayList<>(rules);
        less.remove(rule);
        edit(less, finals);
        return rules.size();
    }

    int swapStates(int a, int b) {
        if (!isState(a) || !isState(b)) {
            return INVALID;
        }
        int touched = 0;
        List<Rule> swapped = new ArrayList<>();
        for (Rule rule : rules) {
            touched += rule.has(a) || rule.has(b) ? 1 : 0;
            swapped.add(rule.swapped(a, b));
        }
        int newFinals = 0;
        for (int state = 0; state < states; state++) {
            if ((finals >> state & 1) == 1) {
                newFinals |= 1 << Rule.other(state, a, b);
            }
        }
        edit(swapped, newFinals);
        return touched;
    }

    int ruleCount() {
        return rules.size();
    }

    int finalStates() {
        return finals;
    }

    private boolean isTree(int tree) {
        return tree >= 0 && tree < small.size();
    }

    private List<Tree> ofSize(int size) {
        List<Tree> found = new ArrayList<>();
        for (Tree tree : small) {
            if (tree.size == size) {
                found.add(tree);
            }
        }
        return found;
    }

    int treeCount(int size) {
        return size < 1 || size > 7 ? INVALID : ofSize(size).size();
    }

    int treeOf(int symbol, int first, int second) {
        if (symbol < 0 || symbol > 4 || (symbol < 2 ? first != 0 : !isTree(first))
                || (symbol < 3 ? second != 0 : !isTree(second))) {
            return INVALID;
        }
        Tree tree = treeWith(symbol, symbol < 2 ? null : small.get(first), symbol < 3 ? null : small.get(second));
        return tree.size > 7 ? LIMIT : tree.number;
    }

    int symbolOf(int tree) {
        return isTree(tree) ? small.get(tree).symbol : INVALID;
    }

    int childOf(int tree, int index) {
        if (!isTree(tree) || index < 0 || index > 1) {
            return INVALID;
        }
        Tree child = index == 0 ? small.get(tree).first : small.get(tree).second;
        return child == null ? MISSING : child.number;
    }

    int sizeOf(int tree) {
        return isTree(tree) ? small.get(tree).size : INVALID;
    }

    int heightOf(int tree) {
        return isTree(tree) ? small.get(tree).height : INVALID;
    }

    private boolean leads(Rule rule, Tree tree) {
        if (rule.symbol() != tree.symbol) {
            return false;
        }
        if (tree.first != null && (subset(tree.first) >> rule.first() & 1) == 0) {
            return false;
        }
        if (tree.second != null && (subset(tree.second) >> rule.second() & 1) == 0) {
            return false;
        }
        return fulfilled(rule, tree);
    }

    private static boolean fulfilled(Rule rule, Tree tree) {
        return rule.constraint() == 0 || (rule.constraint() == 1) == (tree.first == tree.second);
    }

    private int subset(Tree tree) {
        Integer found = subsets.get(tree);
        if (found == null) {
            int set = 0;
            for (Rule rule : rules) {
                if (leads(rule, tree)) {
                    set |= 1 << rule.target();
                }
            }
            found = set;
            subsets.put(tree, found);
        }
        return found;
    }

    int subsetOf(int tree) {
        return isTree(tree) ? subset(small.get(tree)) : INVALID;
    }

    private boolean accepted(Tree tree) {
        return (subset(tree) & finals) != 0;
    }

    int accepts(int tree) {
        return !isTree(tree) ? INVALID : accepted(small.get(tree)) ? 1 : 0;
    }

    int runCount(int tree, int state) {
        return isTree(tree) && isState(state) ? runs(small.get(tree), state, new HashMap<>()) : INVALID;
    }

    private int runs(Tree tree, int state, Map<Integer, Integer> counted) {
        Integer before = counted.get(tree.id * 8 + state);
        if (before != null) {
            return before;
        }
        int sum = 0;
        for (Rule rule : rules) {
            if (rule.symbol() == tree.symbol && rule.target() == state && fulfilled(rule, tree)) {
                int ways = tree.first == null ? 1 : runs(tree.first, rule.first(), counted);
                sum = Math.addExact(sum, ways * (tree.second == null ? 1 : runs(tree.second, rule.second(), counted)));
            }
        }
        counted.put(tree.id * 8 + state, sum);
        return sum;
    }

    private List<Integer> acceptedOf(int size) {
        List<Integer> found = new ArrayList<>();
        for (Tree tree : ofSize(size)) {
            if (accepted(tree)) {
                found.add(tree.number);
            }
        }
        return found;
    }

    int acceptedCount(int size) {
        return size < 1 || size > 7 ? INVALID : acceptedOf(size).size();
    }

    int acceptedTree(int size, int index) {
        if (size < 1 || size > 7 || index < 0) {
            return INVALID;
        }
        List<Integer> found = acceptedOf(size);
        return index < found.size() ? found.get(index) : MISSING;
    }

    /**
     * Up to two trees of each reached set, lowest ones first. Two are enough: whatever can be built from the
     * other trees of a set, equal or different brothers, can be built from these.
     */
    private Map<Integer, List<Tree>> shown() {
        if (shown.isEmpty()) {
            show(treeWith(0, null, null));
            show(treeWith(1, null, null));
            boolean more = true;
            while (more) {
                List<Tree> lower = new ArrayList<>();
                shown.values().forEach(lower::addAll);
                more = false;
                for (Tree first : lower) {
                    more |= show(treeWith(2, first, null));
                    for (Tree second : lower) {
                        more |= show(treeWith(3, first, second));
                        more |= show(treeWith(4, first, second));
                    }
                }
            }
        }
        return shown;
    }

    private boolean show(Tree tree) {
        List<Tree> row = shown.computeIfAbsent(subset(tree), set -> new ArrayList<>());
        if (row.size() >= 2 || row.contains(tree)) {
            return false;
        }
        row.add(tree);
        return true;
    }

    int treesOfSet(int set) {
        if (set < 0 || set >= 1 << states) {
            return INVALID;
        }
        return shown().getOrDefault(set, List.of()).size();
    }

    int reachedSets() {
        return shown().size();
    }

    int isReachable(int state) {
        if (!isState(state)) {
            return INVALID;
        }
        return shown().keySet().stream().anyMatch(set -> (set >> state & 1) == 1) ? 1 : 0;
    }

    int isEmpty() {
        return shown().keySet().stream().noneMatch(set -> (set & finals) != 0) ? 1 : 0;
    }

    int isUniversal() {
        return shown().keySet().stream().allMatch(set -> (set & finals) != 0) ? 1 : 0;
    }

    int isComplete() {
        return shown().containsKey(0) ? 0 : 1;
    }

    int isDeterministic() {
        return shown().keySet().stream().allMatch(set -> Integer.bitCount(set) <= 1) ? 1 : 0;
    }

    int leastHeight() {
        int least = Integer.MAX_VALUE;
        for (List<Tree> row : shown().values()) {
            for (Tree tree : row) {
                least = accepted(tree) ? Math.min(least, tree.height) : least;
            }
        }
        return least == Integer.MAX_VALUE ? MISSING : least;
    }
}

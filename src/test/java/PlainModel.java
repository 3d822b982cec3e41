import java.util.ArrayList;
import java.util.Arrays;
import java.util.Collections;
import java.util.HashSet;
import java.util.List;
import java.util.Set;

/** The document once more, by trying out everything; written without a look at how LeafOrder does it. */
final class PlainModel {
    private static final int BAD = -1, FINDING = -3, STATE = -4, NONE = -9;

    /** A node with its branches from the left; a leaf has none. */
    private static final class Node {
        int number;
        Node first;
        Node other;
        Node up;
        int height;
        int turned;
        boolean held;

        boolean isLeaf() {
            return first == null;
        }

        List<Integer> leaves() {
            List<Integer> all = new ArrayList<>();
            if (isLeaf()) {
                all.add(number);
            } else {
                all.addAll(first.leaves());
                all.addAll(other.leaves());
            }
            return all;
        }

        void swap() {
            Node was = first;
            first = other;
            other = was;
        }
    }

    private static final class Tree {
        final List<Node> nodes = new ArrayList<>();
        int leafCount;

        Node top() {
            return nodes.get(nodes.size() - 1);
        }

        List<Integer> order() {
            return top().leaves();
        }

        List<Node> free() {
            List<Node> joins = new ArrayList<>();
            for (Node node : nodes) {
                if (!node.isLeaf() && !node.held) {
                    joins.add(node);
                }
            }
            return joins;
        }

        /** Every order that turns can give; the tree is left as it was. */
        List<List<Integer>> allOrders() {
            List<List<Integer>> all = new ArrayList<>();
            addOrders(free(), 0, all);
            return all;
        }

        private void addOrders(List<Node> free, int from, List<List<Integer>> all) {
            if (from == free.size()) {
                all.add(order());
                return;
            }
            addOrders(free, from + 1, all);
            free.get(from).swap();
            addOrders(free, from + 1, all);
            free.get(from).swap();
        }
    }

    private int n = 0;
    private final int[][] rows = new int[10][];
    private final Tree[] trees = new Tree[4];
    private int[][] worths = new int[0][0];
    private List<Integer> laid = new ArrayList<>();
    private List<Integer> kept = null;
    private List<Set<Integer>> groups = new ArrayList<>();
    private int asked = 0;
    private int finding = 0;
    private final int[] findings = new int[6];

    private int found(int f) {
        finding = f;
        findings[f]++;
        return FINDING;
    }

    private static boolean within(int v, int low, int high) {
        return low <= v && v <= high;
    }

    int leaves(int count) {
        if (!within(count, n, 10)) {
            return BAD;
        }
        return n = count;
    }

    int row(int i) {
        if (!within(i, 0, 9)) {
            return BAD;
        }
        int was = rows[i] == null ? 0 : 1;
        rows[i] = new int[10];
        return was;
    }

    int lay(int i, int j, int v) {
        if (!within(i, 0, 9) || !within(v, 0, 10000)) {
            return BAD;
        }
        if (rows[i] == null) {
            return found(1);
        }
        if (!within(j, 0, 9)) {
            return found(2);
        }
        asked = rows[i][j];
        rows[i][j] = v;
        return 1;
    }

    int tear(int i) {
        if (!within(i, 0, 9)) {
            return BAD;
        }
        if (rows[i] == null) {
            return found(1);
        }
        rows[i] = null;
        return 1;
    }

    int copy(int i, int from, int to, int at, int count) {
        if (!within(i, 0, 9) || !within(to, 0, 9)) {
            return BAD;
        }
        if (count < 0) {
            return found(5);
        }
        if (rows[i] == null || rows[to] == null) {
            return found(1);
        }
        if (from < 0 || at < 0 || (long) from + count > 10 || (long) at + count > 10) {
            return found(2);
        }
        int[] taken = Arrays.copyOfRange(rows[i], from, from + count);
        for (int k = 0; k < count; k++) {
            rows[to][at + k] = taken[k];
        }
        return 1;
    }

    private int unlikeness(int a, int b) {
        if (a > b) {
            return unlikeness(b, a);
        }
        return a == b || rows[b] == null || n <= b ? 0 : rows[b][a];
    }

    int unlike(int a, int b) {
        if (!within(a, 0, n - 1) || !within(b, 0, n - 1)) {
            return BAD;
        }
        asked = unlikeness(a, b);
        return 1;
    }

    int mean(int i) {
        if (!within(i, 0, 9)) {
            return BAD;
        }
        if (rows[i] == null) {
            return found(1);
        }
        return i == 0 ? found(4) : Arrays.stream(rows[i], 0, i).sum() / i;
    }

    /** How far apart two groups are, as a fraction: above and below the line. */
    private long[] apart(Node a, Node b, int way) {
        List<Integer> all = new ArrayList<>();
        for (int x : a.leaves()) {
            for (int y : b.leaves()) {
                all.add(unlikeness(x, y));
            }
        }
        if (way == 2) {
            return new long[] {all.stream().mapToInt(v -> v).sum(), all.size()};
        }
        return new long[] {way == 0 ? Collections.min(all) : Collections.max(all), 1};
    }

    int make(int t, int way) {
        if (!within(t, 0, 3) || !within(way, 0, 2)) {
            return BAD;
        }
        if (n == 0) {
            return STATE;
        }
        Tree tree = new Tree();
        tree.leafCount = n;
        List<Node> alone = new ArrayList<>();
        for (int leaf = 0; leaf < n; leaf++) {
            Node node = new Node();
            node.number = leaf;
            tree.nodes.add(node);
            alone.add(node);
        }
        while (alone.size() > 1) {
            join(tree, alone, way);
        }
        trees[t] = tree;
        return tree.nodes.size();
    }

    private void join(Tree tree, List<Node> groups, int way) {
        Node first = null;
        Node other = null;
        for (Node a : groups) {
            for (Node b : groups) {
                if (least(a) < least(b) && (first == null || ahead(a, b, first, other, way))) {
                    first = a;
                    other = b;
                }
            }
        }
        Node joined = new Node();
        joined.number = tree.nodes.size();
        joined.first = first;
        joined.other = other;
        long[] height = apart(first, other, way);
        joined.height = (int) (height[0] / height[1]);
        first.up = joined;
        other.up = joined;
        tree.nodes.add(joined);
        groups.remove(first);
        groups.remove(other);
        groups.add(joined);
    }

    private static int least(Node node) {
        return Collections.min(node.leaves());
    }

    private boolean ahead(Node a, Node b, Node c, Node d, int way) {
        long[] one = apart(a, b, way);
        long[] another = apart(c, d, way);
        long differ = one[0] * another[1] - another[0] * one[1];
        if (differ == 0) {
            differ = least(a) != least(c) ? least(a) - least(c) : least(b) - least(d);
        }
        return differ < 0;
    }

    private int treeRefused(int t) {
        if (!within(t, 0, 3)) {
            return BAD;
        }
        return trees[t] == null ? found(1) : 0;
    }

    private int nodeRefused(int t, int node) {
        int refused = treeRefused(t);
        return refused != 0 ? refused : within(node, 0, trees[t].nodes.size() - 1) ? 0 : found(2);
    }

    int drop(int t) {
        int refused = treeRefused(t);
        if (refused != 0) {
            return refused;
        }
        trees[t] = null;
        return 1;
    }

    int told(int t, int number, int what) {
        int refused = within(what, 0, 5) ? nodeRefused(t, number) : BAD;
        return refused != 0 ? refused : tellOf(trees[t].nodes.get(number), what);
    }

    private static int tellOf(Node node, int what) {
        int[] all = {node.isLeaf() ? 1 : node.held ? 3 : 2, node.isLeaf() ? NONE : node.first.number,
            node.isLeaf() ? NONE : node.other.number, node.height, node.leaves().size(),
            node.up == null ? NONE : node.up.number};
        return all[what];
    }

    private static int heldIn(Node node) {
        return node.isLeaf() ? 0 : (node.held ? 1 : 0) + heldIn(node.first) + heldIn(node.other);
    }

    int mark(int t, int number, int kind) {
        int refused = within(kind, 1, 3) ? nodeRefused(t, number) : BAD;
        if (refused != 0) {
            return refused;
        }
        Node node = trees[t].nodes.get(number);
        if (kind == 1) {
            return node.isLeaf() ? trees[t].order().indexOf(number) : found(3);
        }
        if (node.isLeaf() || kind == 3 && !node.held) {
            return found(3);
        }
        return kind == 2 ? node.turned : heldIn(node) - 1;
    }

    int turn(int t, int number) {
        int refused = nodeRefused(t, number);
        if (refused != 0) {
            return refused;
        }
        Node node = trees[t].nodes.get(number);
        if (node.isLeaf()) {
            return found(3);
        }
        if (node.held) {
            return STATE;
        }
        node.swap();
        return ++node.turned;
    }

    int hold(int t, int number, boolean is) {
        int refused = nodeRefused(t, number);
        if (refused != 0) {
            return refused;
        }
        Node node = trees[t].nodes.get(number);
        if (node.isLeaf()) {
            return found(3);
        }
        int was = node.held ? 1 : 0;
        node.held = is;
        return was;
    }

    int order(int t, int i) {
        int refused = treeRefused(t);
        if (refused != 0) {
            return refused;
        }
        return within(i, 0, trees[t].leafCount - 1) ? trees[t].order().get(i) : NONE;
    }

    private int priceOf(List<Integer> order) {
        int sum = 0;
        for (int i = 1; i < order.size(); i++) {
            sum += unlikeness(order.get(i - 1), order.get(i));
        }
        return sum;
    }

    int price(int t) {
        int refused = treeRefused(t);
        if (refused != 0) {
            return refused;
        }
        asked = priceOf(trees[t].order());
        return 1;
    }

    private static int compare(List<Integer> one, List<Integer> another) {
        for (int i = 0; i < one.size(); i++) {
            if (!one.get(i).equals(another.get(i))) {
                return one.get(i) - another.get(i);
            }
        }
        return 0;
    }

    int best(int t) {
        int refused = treeRefused(t);
        if (refused != 0) {
            return refused;
        }
        Tree tree = trees[t];
        List<Integer> least = tree.order();
        int was = priceOf(least);
        for (List<Integer> order : tree.allOrders()) {
            int differ = priceOf(order) - priceOf(least);
            if (differ < 0 || differ == 0 && compare(order, least) < 0) {
                least = order;
            }
        }
        for (Node node : tree.nodes) {
            if (!node.isLeaf() && least.indexOf(least(node.first)) > least.indexOf(least(node.other))) {
                node.swap();
                node.turned++;
            }
        }
        asked = priceOf(tree.order());
        return was - asked;
    }

    /** Pairs that stand in the one order otherwise than in the other; leaves that are in one alone do not count. */
    private static int otherwise(List<Integer> one, List<Integer> another) {
        int count = 0;
        for (int a : one) {
            for (int b : one) {
                if (a < b && another.contains(a) && another.contains(b)
                    && one.indexOf(a) < one.indexOf(b) != another.indexOf(a) < another.indexOf(b)) {
                    count++;
                }
            }
        }
        return count;
    }

    /** Turns every join alone to see if that leaves fewer crossings. */
    private static int look(Tree tree, List<Integer> order) {
        int turns = 0;
        for (Node node : tree.free()) {
            int was = otherwise(tree.order(), order);
            node.swap();
            if (otherwise(tree.order(), order) < was) {
                node.turned++;
                turns++;
            } else {
                node.swap();
            }
        }
        return turns;
    }

    private int pairRefused(int t, int u) {
        if (!within(t, 0, 3) || !within(u, 0, 3)) {
            return BAD;
        }
        if (trees[t] == null || trees[u] == null) {
            return found(1);
        }
        return trees[t].leafCount != trees[u].leafCount ? STATE : 0;
    }

    private int facingRefused(int t, int u) {
        return t == u ? BAD : pairRefused(t, u);
    }

    int crossings(int t, int u) {
        int refused = pairRefused(t, u);
        return refused != 0 ? refused : otherwise(trees[t].order(), trees[u].order());
    }

    int face(int t, int u) {
        int refused = facingRefused(t, u);
        return refused != 0 ? refused : look(trees[t], trees[u].order());
    }

    int faceBoth(int t, int u) {
        int refused = facingRefused(t, u);
        if (refused != 0) {
            return refused;
        }
        int turns = 1;
        while (turns > 0) {
            turns = look(trees[t], trees[u].order());
            turns += look(trees[u], trees[t].order());
        }
        return otherwise(trees[t].order(), trees[u].order());
    }

    int fewest(int t, int u) {
        int refused = facingRefused(t, u);
        if (refused != 0) {
            return refused;
        }
        if (trees[t].leafCount > 6) {
            return STATE;
        }
        int least = Integer.MAX_VALUE;
        for (List<Integer> one : trees[t].allOrders()) {
            for (List<Integer> another : trees[u].allOrders()) {
                least = Math.min(least, otherwise(one, another));
            }
        }
        return least;
    }

    int keep(int t) {
        int refused = treeRefused(t);
        if (refused != 0) {
            return refused;
        }
        kept = trees[t].order();
        return kept.size();
    }

    int near(int t) {
        int refused = treeRefused(t);
        if (refused != 0) {
            return refused;
        }
        if (kept == null) {
            return STATE;
        }
        look(trees[t], kept);
        return otherwise(trees[t].order(), kept);
    }

    private static void addGroups(Node node, int height, List<Set<Integer>> all) {
        if (node.isLeaf() || node.height <= height) {
            all.add(new HashSet<>(node.leaves()));
        } else {
            addGroups(node.first, height, all);
            addGroups(node.other, height, all);
        }
    }

    private static List<Set<Integer>> groupsAt(Tree tree, int height) {
        List<Set<Integer>> all = new ArrayList<>();
        addGroups(tree.top(), height, all);
        return all;
    }

    int cut(int t, int height) {
        int refused = within(height, 0, 1000000) ? treeRefused(t) : BAD;
        if (refused != 0) {
            return refused;
        }
        groups = groupsAt(trees[t], height);
        return groups.size();
    }

    int group(int leaf) {
        for (int g = 0; g < groups.size(); g++) {
            if (groups.get(g).contains(leaf)) {
                return g;
            }
        }
        return NONE;
    }

    int same(int t, int u, int height) {
        int refused = within(height, 0, 1000000) ? pairRefused(t, u) : BAD;
        if (refused != 0) {
            return refused;
        }
        int count = 0;
        for (Set<Integer> one : groupsAt(trees[t], height)) {
            if (groupsAt(trees[u], height).contains(one)) {
                count += one.size();
            }
        }
        return count;
    }

    int axes(int m) {
        if (!within(m, 0, 8)) {
            return BAD;
        }
        worths = new int[m][m];
        return m;
    }

    int worth(int a, int b, int v) {
        int last = worths.length - 1;
        if (!within(a, 0, last) || !within(b, 0, last) || a == b || !within(v, -1000, 1000)) {
            return BAD;
        }
        asked = worths[a][b];
        worths[a][b] = v;
        worths[b][a] = v;
        return 1;
    }

    /** Tries the layings place by place, so that the first of alike ones is met ahead. */
    private void tryLayings(List<Integer> begun, int sum, int[] most) {
        if (begun.size() == worths.length) {
            if (sum > most[0]) {
                most[0] = sum;
                laid = new ArrayList<>(begun);
            }
            return;
        }
        for (int a = 0; a < worths.length; a++) {
            if (!begun.contains(a)) {
                int more = begun.isEmpty() ? 0 : worths[begun.get(begun.size() - 1)][a];
                begun.add(a);
                tryLayings(begun, sum + more, most);
                begun.remove(begun.size() - 1);
            }
        }
    }

    int laying() {
        int[] most = {Integer.MIN_VALUE};
        tryLayings(new ArrayList<>(), 0, most);
        asked = most[0];
        return worths.length;
    }

    int axis(int i) {
        return within(i, 0, laid.size() - 1) ? laid.get(i) : NONE;
    }

    int asked() {
        return asked;
    }

    int count(int what) {
        int there = 0;
        int made = 0;
        int held = 0;
        for (int[] row : rows) {
            there += row == null ? 0 : 1;
        }
        for (Tree tree : trees) {
            made += tree == null ? 0 : 1;
            held += tree == null ? 0 : heldIn(tree.top());
        }
        int[] all = {n, there, made, worths.length, held};
        return within(what, 0, 4) ? all[what] : BAD;
    }

    int finding() {
        return finding;
    }

    int findings(int f) {
        return within(f, 1, 5) ? findings[f] : BAD;
    }

    long digest() {
        List<Integer> all = new ArrayList<>(List.of(n, worths.length));
        for (int[] row : rows) {
            for (int v : row == null ? new int[] {-1} : row) {
                all.add(v);
            }
        }
        for (Tree tree : trees) {
            if (tree == null) {
                all.add(-1);
                continue;
            }
            for (Node node : tree.nodes) {
                for (int what = 0; what <= 5; what++) {
                    all.add(tellOf(node, what));
                }
            }
        }
        for (int a = 0; a < worths.length; a++) {
            for (int b = a + 1; b < worths.length; b++) {
                all.add(worths[a][b]);
            }
        }
        long h = 17;
        for (int v : all) {
            h = 31 * h + v;
        }
        return h;
    }
}

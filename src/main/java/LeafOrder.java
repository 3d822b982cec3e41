import java.util.Arrays;

/** Trees of likeness whose branches are turned so that like leaves stand near; see README.md. */
public final class LeafOrder {
    public static final int BAD = -1, FULL = -2, FINDING = -3, STATE = -4, NONE = -9;

    private static final int MOST_LEAVES = 10;
    private static final int MOST_NODES = 2 * MOST_LEAVES - 1;
    private static final int MOST_TREES = 4;
    private static final int MOST_AXES = 8;
    private static final int MOST_UNLIKENESS = 10000;
    private static final int MOST_WORTH = 1000;
    private static final int MOST_HEIGHT = 1000000;
    private static final int MOST_LEAVES_FOR_FEWEST = 6;

    private static final int WAY_LEAST = 0, WAY_GREATEST = 1, WAY_SUM = 2;
    private static final int KIND_LEAF = 1, KIND_JOIN = 2, KIND_HELD = 3;
    private static final int NOTHING = 1, BEYOND = 2, UNLIKE = 3, NOUGHT = 4, SIZE = 5;

    private static final int FINE = 0;

    private final Rows rows;
    private final Tree[] trees;
    private final Maker maker;
    private final BestTurns bestTurns;
    private final Axes axesLaid;
    private final Findings found;
    private final int[] groups;
    private final int[] keptPlaces;
    private final int[] triedStarts;
    private int keptCount;
    private int latestAsked;

    public LeafOrder() {
        rows = new Rows();
        trees = new Tree[MOST_TREES];
        for (int t = 0; t < MOST_TREES; t++) {
            trees[t] = new Tree();
        }
        maker = new Maker();
        bestTurns = new BestTurns();
        axesLaid = new Axes();
        found = new Findings();
        groups = new int[MOST_LEAVES];
        Arrays.fill(groups, NONE);
        keptPlaces = new int[MOST_LEAVES];
        Arrays.fill(keptPlaces, NONE);
        triedStarts = new int[MOST_NODES];
        keptCount = 0;
        latestAsked = 0;
    }

    // ---- 1 leaves, rows, trees

    public int leaves(int n) {
        if (n < rows.leafCount || n > MOST_LEAVES) {
            return BAD;
        }
        rows.leafCount = n;
        return n;
    }

    public int row(int i) {
        if (!isRow(i)) {
            return BAD;
        }
        int was = rows.there[i] ? 1 : 0;
        rows.there[i] = true;
        Arrays.fill(rows.places[i], 0);
        return was;
    }

    public int lay(int i, int j, int v) {
        if (!isRow(i) || v < 0 || v > MOST_UNLIKENESS) {
            return BAD;
        }
        if (!rows.there[i]) {
            return found.answer(NOTHING);
        }
        if (j < 0 || j >= MOST_LEAVES) {
            return found.answer(BEYOND);
        }
        latestAsked = rows.places[i][j];
        rows.places[i][j] = v;
        return 1;
    }

    public int tear(int i) {
        if (!isRow(i)) {
            return BAD;
        }
        if (!rows.there[i]) {
            return found.answer(NOTHING);
        }
        rows.there[i] = false;
        return 1;
    }

    public int copy(int i, int from, int to, int at, int n) {
        if (!isRow(i) || !isRow(to)) {
            return BAD;
        }
        if (n < 0) {
            return found.answer(SIZE);
        }
        if (!rows.there[i] || !rows.there[to]) {
            return found.answer(NOTHING);
        }
        if (!hasPlaces(from, n) || !hasPlaces(at, n)) {
            return found.answer(BEYOND);
        }
        System.arraycopy(rows.places[i], from, rows.places[to], at, n);
        return 1;
    }

    public int unlike(int a, int b) {
        if (!isLeaf(a) || !isLeaf(b)) {
            return BAD;
        }
        latestAsked = rows.unlikeness(a, b);
        return 1;
    }

    public int mean(int i) {
        if (!isRow(i)) {
            return BAD;
        }
        if (!rows.there[i]) {
            return found.answer(NOTHING);
        }
        if (i == 0) {
            return found.answer(NOUGHT);
        }
        int sum = 0;
        for (int j = 0; j < i; j++) {
            sum += rows.places[i][j];
        }
        return sum / i;
    }

    public int make(int t, int way) {
        if (!isTree(t) || way < WAY_LEAST || way > WAY_SUM) {
            return BAD;
        }
        if (rows.leafCount == 0) {
            return STATE;
        }
        maker.build(trees[t], rows, way);
        return trees[t].nodeCount;
    }

    public int drop(int t) {
        int refused = treeRefused(t);
        if (refused != FINE) {
            return refused;
        }
        trees[t].there = false;
        return 1;
    }

    public int told(int t, int node, int what) {
        if (what < 0 || what > 5) {
            return BAD;
        }
        int refused = nodeRefused(t, node);
        return refused != FINE ? refused : trees[t].tell(node, what);
    }

    public int mark(int t, int node, int kind) {
        if (kind < KIND_LEAF || kind > KIND_HELD) {
            return BAD;
        }
        int refused = nodeRefused(t, node);
        if (refused != FINE) {
            return refused;
        }
        Tree tree = trees[t];
        if (!tree.isOf(node, kind)) {
            return found.answer(UNLIKE);
        }
        if (kind == KIND_LEAF) {
            return tree.start[node];
        }
        return kind == KIND_JOIN ? tree.turned[node] : tree.heldBelow(node);
    }

    public int turn(int t, int node) {
        int refused = joinRefused(t, node);
        if (refused != FINE) {
            return refused;
        }
        Tree tree = trees[t];
        if (tree.held[node]) {
            return STATE;
        }
        tree.swap(node);
        tree.arrange();
        return tree.turned[node];
    }

    public int hold(int t, int node, boolean is) {
        int refused = joinRefused(t, node);
        if (refused != FINE) {
            return refused;
        }
        int was = trees[t].held[node] ? 1 : 0;
        trees[t].held[node] = is;
        return was;
    }

    public int order(int t, int i) {
        int refused = treeRefused(t);
        if (refused != FINE) {
            return refused;
        }
        Tree tree = trees[t];
        return i >= 0 && i < tree.leafCount ? tree.leafAt[i] : NONE;
    }

    public int price(int t) {
        int refused = treeRefused(t);
        if (refused != FINE) {
            return refused;
        }
        latestAsked = trees[t].costOfOrder(rows);
        return 1;
    }

    // ---- 2 turns

    public int best(int t) {
        int refused = treeRefused(t);
        if (refused != FINE) {
            return refused;
        }
        Tree tree = trees[t];
        int was = tree.costOfOrder(rows);
        bestTurns.find(tree, rows);
        tree.lookAt(bestTurns.places);
        latestAsked = tree.costOfOrder(rows);
        return was - latestAsked;
    }

    public int crossings(int t, int u) {
        int refused = pairRefused(t, u);
        return refused != FINE ? refused : trees[t].crossingsWith(trees[u].start);
    }

    public int face(int t, int u) {
        int refused = facingRefused(t, u);
        return refused != FINE ? refused : trees[t].lookAt(trees[u].start);
    }

    public int faceBoth(int t, int u) {
        int refused = facingRefused(t, u);
        if (refused != FINE) {
            return refused;
        }
        Tree one = trees[t];
        Tree other = trees[u];
        // Each turn takes a crossing away, so there are no more rounds than pairs of leaves.
        for (int round = 0; round <= MOST_LEAVES * MOST_LEAVES; round++) {
            int turns = one.lookAt(other.start);
            turns += other.lookAt(one.start);
            if (turns == 0) {
                break;
            }
        }
        return one.crossingsWith(other.start);
    }

    public int fewest(int t, int u) {
        int refused = facingRefused(t, u);
        if (refused != FINE) {
            return refused;
        }
        if (trees[t].leafCount > MOST_LEAVES_FOR_FEWEST) {
            return STATE;
        }
        return fewestOverTurns(trees[t], trees[u]);
    }

    public int keep(int t) {
        int refused = treeRefused(t);
        if (refused != FINE) {
            return refused;
        }
        keptCount = trees[t].leafCount;
        Arrays.fill(keptPlaces, NONE);
        System.arraycopy(trees[t].start, 0, keptPlaces, 0, keptCount);
        return keptCount;
    }

    public int near(int t) {
        int refused = treeRefused(t);
        if (refused != FINE) {
            return refused;
        }
        if (keptCount == 0) {
            return STATE;
        }
        trees[t].lookAt(keptPlaces);
        return trees[t].crossingsWith(keptPlaces);
    }

    public int cut(int t, int height) {
        if (!isHeight(height)) {
            return BAD;
        }
        int refused = treeRefused(t);
        if (refused != FINE) {
            return refused;
        }
        Arrays.fill(groups, NONE);
        trees[t].cutAt(height);
        return trees[t].numberGroups(groups);
    }

    public int group(int leaf) {
        return leaf >= 0 && leaf < MOST_LEAVES ? groups[leaf] : NONE;
    }

    public int same(int t, int u, int height) {
        if (!isHeight(height)) {
            return BAD;
        }
        int refused = pairRefused(t, u);
        if (refused != FINE) {
            return refused;
        }
        trees[t].cutAt(height);
        trees[u].cutAt(height);
        int count = 0;
        for (int leaf = 0; leaf < trees[t].leafCount; leaf++) {
            if (trees[t].groupOf(leaf) == trees[u].groupOf(leaf)) {
                count++;
            }
        }
        return count;
    }

    // ---- 3 axes

    public int axes(int m) {
        if (m < 0 || m > MOST_AXES) {
            return BAD;
        }
        axesLaid.begin(m);
        return m;
    }

    public int worth(int a, int b, int v) {
        if (!isAxis(a) || !isAxis(b) || a == b || v < -MOST_WORTH || v > MOST_WORTH) {
            return BAD;
        }
        latestAsked = axesLaid.worths[a][b];
        axesLaid.worths[a][b] = v;
        axesLaid.worths[b][a] = v;
        return 1;
    }

    public int laying() {
        latestAsked = axesLaid.layBest();
        return axesLaid.axisCount;
    }

    public int axis(int i) {
        return i >= 0 && i < axesLaid.laidCount ? axesLaid.laid[i] : NONE;
    }

    // ---- 4 what is told

    public int asked() {
        return latestAsked;
    }

    public int count(int what) {
        switch (what) {
            case 0:
                return rows.leafCount;
            case 1:
                return rows.countThere();
            case 2:
                return treesThere();
            case 3:
                return axesLaid.axisCount;
            case 4:
                return heldInAll();
            default:
                return BAD;
        }
    }

    public int finding() {
        return found.latest;
    }

    public int findings(int f) {
        return f >= NOTHING && f <= SIZE ? found.counts[f] : BAD;
    }

    public long digest() {
        long h = 17;
        h = 31 * h + rows.leafCount;
        h = 31 * h + axesLaid.axisCount;
        h = rows.digestFrom(h);
        for (int t = 0; t < MOST_TREES; t++) {
            h = trees[t].digestFrom(h);
        }
        return axesLaid.digestFrom(h);
    }

    private static boolean isRow(int i) {
        return i >= 0 && i < MOST_LEAVES;
    }

    private static boolean isTree(int t) {
        return t >= 0 && t < MOST_TREES;
    }

    private static boolean isHeight(int height) {
        return height >= 0 && height <= MOST_HEIGHT;
    }

    private boolean isLeaf(int leaf) {
        return leaf >= 0 && leaf < rows.leafCount;
    }

    private boolean isAxis(int a) {
        return a >= 0 && a < axesLaid.axisCount;
    }

    /** The row's end is compared by a difference, since a sum could wrap around. */
    private static boolean hasPlaces(int from, int n) {
        return from >= 0 && from <= MOST_LEAVES && n <= MOST_LEAVES - from;
    }

    private int treeRefused(int t) {
        if (!isTree(t)) {
            return BAD;
        }
        return trees[t].there ? FINE : found.answer(NOTHING);
    }

    private int nodeRefused(int t, int node) {
        int refused = treeRefused(t);
        if (refused != FINE) {
            return refused;
        }
        return node >= 0 && node < trees[t].nodeCount ? FINE : found.answer(BEYOND);
    }

    private int joinRefused(int t, int node) {
        int refused = nodeRefused(t, node);
        if (refused != FINE) {
            return refused;
        }
        return trees[t].isOf(node, KIND_JOIN) ? FINE : found.answer(UNLIKE);
    }

    private int pairRefused(int t, int u) {
        if (!isTree(t) || !isTree(u)) {
            return BAD;
        }
        if (!trees[t].there || !trees[u].there) {
            return found.answer(NOTHING);
        }
        return trees[t].leafCount == trees[u].leafCount ? FINE : STATE;
    }

    private int facingRefused(int t, int u) {
        return t == u ? BAD : pairRefused(t, u);
    }

    /** The turns of one tree are tried out alone: for each, the other's joins choose their sides each by itself. */
    private int fewestOverTurns(Tree one, Tree other) {
        int least = one.crossingsWith(other.start);
        int ways = 1 << (other.nodeCount - other.leafCount);
        for (int turns = 0; turns < ways; turns++) {
            if (other.mayTurn(turns)) {
                other.spread(turns, triedStarts);
                least = Math.min(least, one.leastCrossingsWith(triedStarts));
            }
        }
        return least;
    }

    private int treesThere() {
        int count = 0;
        for (int t = 0; t < MOST_TREES; t++) {
            if (trees[t].there) {
                count++;
            }
        }
        return count;
    }

    private int heldInAll() {
        int count = 0;
        for (int t = 0; t < MOST_TREES; t++) {
            if (trees[t].there) {
                count += trees[t].heldUpTo(trees[t].nodeCount);
            }
        }
        return count;
    }

    /** What was found wrong: the latest finding, and how often each was answered. */
    private static final class Findings {
        final int[] counts = new int[SIZE + 1];
        int latest = 0;

        int answer(int which) {
            latest = which;
            counts[which]++;
            return FINDING;
        }
    }

    /** The leaves' number and the rows that tell how unlike they are. */
    private static final class Rows {
        final int[][] places = new int[MOST_LEAVES][MOST_LEAVES];
        final boolean[] there = new boolean[MOST_LEAVES];
        int leafCount = 0;

        int unlikeness(int a, int b) {
            int low = Math.min(a, b);
            int high = Math.max(a, b);
            if (low < 0 || low == high || high >= leafCount || !there[high]) {
                return 0;
            }
            return places[high][low];
        }

        int countThere() {
            int count = 0;
            for (int i = 0; i < MOST_LEAVES; i++) {
                if (there[i]) {
                    count++;
                }
            }
            return count;
        }

        long digestFrom(long begun) {
            long h = begun;
            for (int i = 0; i < MOST_LEAVES; i++) {
                if (!there[i]) {
                    h = 31 * h - 1;
                    continue;
                }
                for (int j = 0; j < MOST_LEAVES; j++) {
                    h = 31 * h + places[i][j];
                }
            }
            return h;
        }
    }

    /** One tree. A join's number is above those of its branches, so loops by number go up or down the tree. */
    private static final class Tree {
        final int[] left = new int[MOST_NODES];
        final int[] right = new int[MOST_NODES];
        final int[] above = new int[MOST_NODES];
        final int[] height = new int[MOST_NODES];
        final int[] size = new int[MOST_NODES];
        /** Bit k of a node's set: leaf k is in it. */
        final int[] leafSet = new int[MOST_NODES];
        final int[] turned = new int[MOST_NODES];
        final boolean[] held = new boolean[MOST_NODES];
        /** The first place that a node takes up in the order; a leaf's is its place. */
        final int[] start = new int[MOST_NODES];
        final int[] leafAt = new int[MOST_LEAVES];
        /** By the latest cut: the highest node that holds a node together with all of its group. */
        final int[] holder = new int[MOST_NODES];
        boolean there = false;
        int leafCount = 0;
        int nodeCount = 0;

        void begin(int n) {
            there = true;
            leafCount = n;
            nodeCount = n;
            Arrays.fill(turned, 0);
            for (int node = 0; node < MOST_NODES; node++) {
                held[node] = false;
                above[node] = NONE;
            }
            for (int leaf = 0; leaf < n; leaf++) {
                left[leaf] = NONE;
                right[leaf] = NONE;
                height[leaf] = 0;
                size[leaf] = 1;
                leafSet[leaf] = 1 << leaf;
            }
        }

        /** Answers the new join's number. */
        int addJoin(int first, int other, int apart) {
            int join = nodeCount;
            nodeCount++;
            left[join] = first;
            right[join] = other;
            above[first] = join;
            above[other] = join;
            height[join] = apart;
            size[join] = size[first] + size[other];
            leafSet[join] = leafSet[first] | leafSet[other];
            return join;
        }

        boolean isOf(int node, int kind) {
            if (kind == KIND_LEAF) {
                return node < leafCount;
            }
            return node >= leafCount && (kind == KIND_JOIN || held[node]);
        }

        boolean holdsLeaf(int node, int leaf) {
            return (leafSet[node] >> leaf & 1) == 1;
        }

        int kindOf(int node) {
            if (node < leafCount) {
                return KIND_LEAF;
            }
            return held[node] ? KIND_HELD : KIND_JOIN;
        }

        int tell(int node, int what) {
            switch (what) {
                case 0:
                    return kindOf(node);
                case 1:
                    return left[node];
                case 2:
                    return right[node];
                case 3:
                    return height[node];
                case 4:
                    return size[node];
                default:
                    return above[node];
            }
        }

        void swap(int join) {
            int first = left[join];
            left[join] = right[join];
            right[join] = first;
            turned[join]++;
        }

        /** What stands where, if the joins whose bits are set in turns (bit 0: the lowest join) were turned too. */
        void spread(int turns, int[] starts) {
            starts[nodeCount - 1] = 0;
            for (int join = nodeCount - 1; join >= leafCount; join--) {
                boolean turnedToo = (turns >> (join - leafCount) & 1) == 1;
                int first = turnedToo ? right[join] : left[join];
                int other = turnedToo ? left[join] : right[join];
                starts[first] = starts[join];
                starts[other] = starts[join] + size[first];
            }
        }

        void arrange() {
            spread(0, start);
            for (int leaf = 0; leaf < leafCount; leaf++) {
                leafAt[start[leaf]] = leaf;
            }
        }

        boolean mayTurn(int turns) {
            for (int join = leafCount; join < nodeCount; join++) {
                if (held[join] && (turns >> (join - leafCount) & 1) == 1) {
                    return false;
                }
            }
            return true;
        }

        int heldUpTo(int end) {
            int count = 0;
            for (int join = leafCount; join < end; join++) {
                if (held[join]) {
                    count++;
                }
            }
            return count;
        }

        int heldBelow(int top) {
            int count = 0;
            for (int join = leafCount; join < top; join++) {
                if (held[join] && (leafSet[join] & leafSet[top]) != 0) {
                    count++;
                }
            }
            return count;
        }

        int costOfOrder(Rows rows) {
            int sum = 0;
            for (int i = 1; i < leafCount; i++) {
                sum += rows.unlikeness(leafAt[i - 1], leafAt[i]);
            }
            return sum;
        }

        /** How many pairs, a leaf of each node, the places put so that the first node's leaf is ahead. */
        int pairsAhead(int first, int other, int[] places) {
            int count = 0;
            for (int a = 0; a < leafCount; a++) {
                if (!holdsLeaf(first, a) || places[a] < 0) {
                    continue;
                }
                for (int b = 0; b < leafCount; b++) {
                    if (holdsLeaf(other, b) && places[a] < places[b]) {
                        count++;
                    }
                }
            }
            return count;
        }

        /** Turns each join that crosses less on its other side; a leaf whose place is below 0 does not count. */
        int lookAt(int[] places) {
            int turns = 0;
            for (int join = leafCount; join < nodeCount; join++) {
                int otherwise = pairsAhead(right[join], left[join], places);
                int likewise = pairsAhead(left[join], right[join], places);
                if (!held[join] && likewise < otherwise) {
                    swap(join);
                    turns++;
                }
            }
            arrange();
            return turns;
        }

        int crossingsWith(int[] places) {
            int sum = 0;
            for (int join = leafCount; join < nodeCount; join++) {
                sum += pairsAhead(right[join], left[join], places);
            }
            return sum;
        }

        /** What crossingsWith() would answer behind lookAt(), with nothing turned. */
        int leastCrossingsWith(int[] places) {
            int sum = 0;
            for (int join = leafCount; join < nodeCount; join++) {
                int otherwise = pairsAhead(right[join], left[join], places);
                int likewise = pairsAhead(left[join], right[join], places);
                sum += held[join] ? otherwise : Math.min(otherwise, likewise);
            }
            return sum;
        }

        void cutAt(int most) {
            for (int node = nodeCount - 1; node >= 0; node--) {
                int join = above[node];
                if (join >= 0 && holder[join] >= 0) {
                    holder[node] = holder[join];
                } else {
                    holder[node] = node < leafCount || height[node] <= most ? node : NONE;
                }
            }
        }

        /** The set of a leaf's group by the latest cut. */
        int groupOf(int leaf) {
            int top = holder[leaf];
            return top >= 0 ? leafSet[top] : 0;
        }

        /** A group's leaves stand side by side, so a new number begins where the holder changes. */
        int numberGroups(int[] groups) {
            int count = 0;
            int latest = NONE;
            for (int i = 0; i < leafCount; i++) {
                int leaf = leafAt[i];
                if (holder[leaf] != latest) {
                    latest = holder[leaf];
                    count++;
                }
                groups[leaf] = count - 1;
            }
            return count;
        }

        long digestFrom(long begun) {
            if (!there) {
                return 31 * begun - 1;
            }
            long h = begun;
            for (int node = 0; node < nodeCount; node++) {
                for (int what = 0; what <= 5; what++) {
                    h = 31 * h + tell(node, what);
                }
            }
            return h;
        }
    }

    /** Makes a tree. A group is known by its least leaf, so going up by these tries alike pairs in the due order. */
    private static final class Maker {
        /** Of two groups: the least, the greatest or the sum of unlikeness, by the way. */
        final int[][] apart = new int[MOST_LEAVES][MOST_LEAVES];
        /** The node of the group with that least leaf; NONE: it went into another group. */
        final int[] nodeOf = new int[MOST_LEAVES];

        void build(Tree tree, Rows rows, int way) {
            int n = rows.leafCount;
            tree.begin(n);
            for (int a = 0; a < n; a++) {
                nodeOf[a] = a;
                for (int b = 0; b < n; b++) {
                    apart[a][b] = rows.unlikeness(a, b);
                }
            }
            for (int joins = 1; joins < n; joins++) {
                joinNearest(tree, way);
            }
            tree.arrange();
        }

        void joinNearest(Tree tree, int way) {
            int first = NONE;
            int other = NONE;
            int leastApart = 0;
            int leastShares = 1;
            for (int a = 0; a < tree.leafCount; a++) {
                for (int b = a + 1; b < tree.leafCount; b++) {
                    if (nodeOf[a] < 0 || nodeOf[b] < 0) {
                        continue;
                    }
                    int shares = sharesOf(tree, a, b, way);
                    if (first < 0 || apart[a][b] * leastShares < leastApart * shares) {
                        first = a;
                        other = b;
                        leastApart = apart[a][b];
                        leastShares = shares;
                    }
                }
            }
            if (first >= 0 && other >= 0 && leastShares > 0) {
                int join = tree.addJoin(nodeOf[first], nodeOf[other], leastApart / leastShares);
                merge(first, other, tree.leafCount, way);
                nodeOf[first] = join;
                nodeOf[other] = NONE;
            }
        }

        /** By how many what stands in apart is to be shared. */
        int sharesOf(Tree tree, int a, int b, int way) {
            return way == WAY_SUM ? tree.size[nodeOf[a]] * tree.size[nodeOf[b]] : 1;
        }

        void merge(int first, int other, int n, int way) {
            for (int c = 0; c < n; c++) {
                int both = together(apart[first][c], apart[other][c], way);
                apart[first][c] = both;
                apart[c][first] = both;
            }
        }

        static int together(int one, int another, int way) {
            if (way == WAY_LEAST) {
                return Math.min(one, another);
            }
            return way == WAY_GREATEST ? Math.max(one, another) : one + another;
        }
    }

    /** Finds the best order from the leaves up, by which leaves stand at both ends of each branch. */
    private static final class BestTurns {
        private static final int LEAF_BITS = 4;
        private static final long LEAF_MASK = 15L;
        private static final int ORDER_BITS = LEAF_BITS * MOST_LEAVES;
        private static final long ORDER_MASK = (1L << ORDER_BITS) - 1;
        private static final long NO_ORDER = -1L;

        /**
         * With which leaves at the left and the right end: the best order of the least branch that holds both, its
         * price above its leaves in one number, so that of two such the lesser number is the better order.
         */
        final long[][] keys = new long[MOST_LEAVES][MOST_LEAVES];
        /** The place of each leaf in the best order that was found. */
        final int[] places = new int[MOST_LEAVES];

        void find(Tree tree, Rows rows) {
            for (int a = 0; a < MOST_LEAVES; a++) {
                Arrays.fill(keys[a], NO_ORDER);
                keys[a][a] = a;
            }
            for (int join = tree.leafCount; join < tree.nodeCount; join++) {
                setSide(tree, rows, tree.left[join], tree.right[join]);
                if (!tree.held[join]) {
                    setSide(tree, rows, tree.right[join], tree.left[join]);
                }
            }
            readPlaces(leastOfTop(tree), tree.leafCount);
        }

        void setSide(Tree tree, Rows rows, int first, int other) {
            for (int a = 0; a < tree.leafCount; a++) {
                for (int b = 0; b < tree.leafCount; b++) {
                    if (tree.holdsLeaf(first, a) && tree.holdsLeaf(other, b)) {
                        keys[a][b] = leastWithEnds(tree, rows, first, a, other, b);
                    }
                }
            }
        }

        /** The first branch begins with leaf a, the other one ends with leaf b: tries what may meet between them. */
        long leastWithEnds(Tree tree, Rows rows, int first, int a, int other, int b) {
            int firstEnds = farEnds(tree, first, a);
            int otherEnds = farEnds(tree, other, b);
            long least = NO_ORDER;
            for (int c = 0; c < tree.leafCount; c++) {
                for (int d = 0; d < tree.leafCount; d++) {
                    if ((firstEnds >> c & 1) == 0 || (otherEnds >> d & 1) == 0) {
                        continue;
                    }
                    long key = besides(keys[a][c], rows.unlikeness(c, d), keys[d][b], tree.size[other]);
                    least = lesser(least, key);
                }
            }
            return least;
        }

        /** The leaves that can stand at a branch's one end when a leaf stands at its other end. */
        static int farEnds(Tree tree, int node, int leaf) {
            if (node < tree.leafCount) {
                return tree.leafSet[node];
            }
            int nearBranch = tree.holdsLeaf(tree.left[node], leaf) ? tree.left[node] : tree.right[node];
            return tree.leafSet[node] & ~tree.leafSet[nearBranch];
        }

        static long besides(long first, int gap, long other, int otherSize) {
            if (first < 0 || other < 0) {
                return NO_ORDER;
            }
            long cost = (first >> ORDER_BITS) + gap + (other >> ORDER_BITS);
            long leaves = (first & ORDER_MASK) << (LEAF_BITS * otherSize) | other & ORDER_MASK;
            return cost << ORDER_BITS | leaves;
        }

        static long lesser(long one, long another) {
            if (one < 0) {
                return another;
            }
            return another < 0 ? one : Math.min(one, another);
        }

        long leastOfTop(Tree tree) {
            int top = tree.nodeCount - 1;
            long least = NO_ORDER;
            for (int a = 0; a < tree.leafCount; a++) {
                int ends = farEnds(tree, top, a);
                for (int b = 0; b < tree.leafCount; b++) {
                    if ((ends >> b & 1) == 1) {
                        least = lesser(least, keys[a][b]);
                    }
                }
            }
            return least;
        }

        void readPlaces(long key, int n) {
            Arrays.fill(places, NONE);
            long rest = key;
            for (int i = n - 1; i >= 0; i--) {
                int leaf = (int) (rest & LEAF_MASK);
                if (leaf < MOST_LEAVES) {
                    places[leaf] = i;
                }
                rest >>= LEAF_BITS;
            }
        }
    }

    /** The axes, what each two are worth as neighbours, and how they were laid last. */
    private static final class Axes {
        final int[][] worths = new int[MOST_AXES][MOST_AXES];
        /** At set * MOST_AXES + a: the greatest worth of the axes of a set, laid with axis a first. */
        final int[] greatest = new int[MOST_AXES << MOST_AXES];
        final int[] laid = new int[MOST_AXES];
        int axisCount = 0;
        int laidCount = 0;

        void begin(int m) {
            axisCount = m;
            for (int a = 0; a < MOST_AXES; a++) {
                Arrays.fill(worths[a], 0);
            }
        }

        /** Answers the worth of what was laid. */
        int layBest() {
            int sets = 1 << axisCount;
            for (int set = 1; set < sets; set++) {
                for (int a = 0; a < axisCount; a++) {
                    if ((set >> a & 1) == 1) {
                        greatest[set * MOST_AXES + a] = greatestFrom(set, a);
                    }
                }
            }
            laidCount = axisCount;
            int rest = sets - 1;
            int sum = 0;
            for (int i = 0; i < axisCount; i++) {
                int before = i == 0 ? NONE : laid[i - 1];
                int next = bestNext(before, rest);
                if (next < 0) {
                    break;
                }
                laid[i] = next;
                sum += worthBeside(before, next);
                rest &= ~(1 << next);
            }
            return sum;
        }

        int greatestFrom(int set, int a) {
            int rest = set & ~(1 << a);
            int next = bestNext(a, rest);
            return next < 0 ? 0 : worths[a][next] + greatest[rest * MOST_AXES + next];
        }

        /** Of a set, the axis that is best laid next behind another one (NONE: at the front), the least of alike. */
        int bestNext(int before, int set) {
            int best = NONE;
            int most = 0;
            for (int b = 0; b < axisCount; b++) {
                if ((set >> b & 1) == 0) {
                    continue;
                }
                int sum = worthBeside(before, b) + greatest[set * MOST_AXES + b];
                if (best < 0 || sum > most) {
                    best = b;
                    most = sum;
                }
            }
            return best;
        }

        int worthBeside(int before, int a) {
            return before < 0 ? 0 : worths[before][a];
        }

        long digestFrom(long begun) {
            long h = begun;
            for (int a = 0; a < axisCount; a++) {
                for (int b = a + 1; b < axisCount; b++) {
                    h = 31 * h + worths[a][b];
                }
            }
            return h;
        }
    }
}

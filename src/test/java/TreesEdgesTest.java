/** The boundary cases of promises 9 to 16, a function for each sentence that names one. */
public final class TreesEdgesTest {
    private static final Check CHECK = new Check("TreesEdgesTest");
    private static final Refusals NONE_THERE = new Refusals(CHECK, Furniture::none);
    private static final Refusals SOME = new Refusals(CHECK, Furniture::some);
    private static final Refusals KEPT = new Refusals(CHECK, Furniture::someKept);
    private static final Refusals FULL = new Refusals(CHECK, Furniture::full);

    public static void main(String[] args) {
        makeFirstAndLast();
        makeOfOneAtLeast();
        makeAlikePairs();
        makeLeastLeafToTheLeft();
        makeByFractions();
        makeHeights();
        makeAnew();
        makeRefused();
        dropFirstAndLast();
        dropRefused();
        toldFirstAndLast();
        toldOfLeafAndTop();
        nodeRefused("told", 0);
        toldRefused();
        markFirstAndLast();
        markOfHeld();
        nodeRefused("mark", 1);
        markRefused();
        turnFirstAndLast();
        turnRefused();
        holdFirstAndLast();
        holdKeepsTurns();
        holdRefused();
        orderFirstAndLast();
        orderRefused();
        priceFirstAndLast();
        priceAsRowsAreNow();
        priceRefused();
        CHECK.finish();
    }

    private static void join(Subject x, int t, int node, int first, int other, int height) {
        CHECK.due(x, first, "told", t, node, 1);
        CHECK.due(x, other, "told", t, node, 2);
        CHECK.due(x, height, "told", t, node, 3);
    }

    /** One tree that is made of a table by a way. */
    private static Subject made(int way, int[][] table) {
        Subject x = Subject.withRows(table);
        CHECK.due(x, 2 * table.length - 1, "make", 0, way);
        return x;
    }

    private static void makeFirstAndLast() {
        CHECK.sentence("9 TREE t (0 .. 3) is MADE by a WAY (0 .. 2): how many NODES");
        for (int t = 0; t <= 3; t++) {
            for (int way = 0; way <= 2; way++) {
                Subject x = Subject.fresh();
                x.call("leaves", 3);
                CHECK.due(x, 5, "make", t, way);
                CHECK.due(x, 1, "count", 2);
                CHECK.due(x, 4, "told", t, 3, 5);
            }
        }
        for (int n = 1; n <= 10; n++) {
            Subject x = Subject.fresh();
            x.call("leaves", n);
            for (int way = 0; way <= 2; way++) {
                CHECK.due(x, 2 * n - 1, "make", way, way);
                CHECK.due(x, n, "told", way, 2 * n - 2, 4);
            }
        }
    }

    private static void makeOfOneAtLeast() {
        CHECK.sentence("9 LEAVES (1 at least)");
        Subject x = Subject.fresh();
        CHECK.due(x, Subject.STATE, "make", 0, 0);
        CHECK.due(x, 0, "count", 2);
        x.call("leaves", 1);
        CHECK.due(x, 1, "make", 0, 0);
        CHECK.due(x, 1, "told", 0, 0, 0);
        CHECK.due(x, Subject.NONE, "told", 0, 0, 5);
        CHECK.alike("order", x.orderOf(0), "0");
        x.call("leaves", 2);
        CHECK.due(x, 3, "make", 1, 0);
        join(x, 1, 2, 0, 1, 0);
        CHECK.alike("order", x.orderOf(1), "01");
    }

    private static void makeAlikePairs() {
        CHECK.sentence("Terms (of alike pairs that whose first one has the least LEAF of all)");
        Subject x = made(0, new int[][] {{}, {5}, {5, 2}, {2, 5, 5}});
        join(x, 0, 4, 0, 3, 2);
        join(x, 0, 5, 1, 2, 2);
        CHECK.sentence("Terms (of these that whose other one has)");
        x = made(1, new int[][] {{}, {5}, {2, 5}, {2, 5, 5}});
        join(x, 0, 4, 0, 2, 2);
        join(x, 0, 5, 4, 1, 5);
        join(x, 0, 6, 5, 3, 5);
        CHECK.sentence("Terms (of these that whose other one has): a group by its least LEAF, not by its NODE");
        x = made(1, new int[][] {{}, {5}, {5, 5}, {5, 0, 5}});
        join(x, 0, 4, 1, 3, 0);
        join(x, 0, 5, 0, 4, 5);
        join(x, 0, 6, 5, 2, 5);
        for (int way = 0; way <= 2; way++) {
            CHECK.sentence("Terms: all alike, WAY " + way);
            x = Subject.withAlike(10, 10000);
            x.call("make", 0, way);
            join(x, 0, 10, 0, 1, 10000);
            for (int node = 11; node < 19; node++) {
                join(x, 0, node, node - 1, node - 9, 10000);
            }
        }
    }

    private static void makeLeastLeafToTheLeft() {
        CHECK.sentence("Terms The one with the least LEAF comes first (to the left)");
        Subject x = made(0, new int[][] {{}, {9}, {9, 1}, {4, 9, 9}, {9, 9, 9, 2}});
        join(x, 0, 5, 1, 2, 1);
        join(x, 0, 6, 3, 4, 2);
        join(x, 0, 7, 0, 6, 4);
        join(x, 0, 8, 7, 5, 9);
        CHECK.alike("order", x.orderOf(0), "03412");
    }

    private static void makeByFractions() {
        CHECK.sentence("Terms the sum (2; by how many pairs, as a fraction): 3/2 is more than 1");
        Subject x = made(2, new int[][] {{}, {0}, {1, 2}, {9, 9, 1}});
        join(x, 0, 4, 0, 1, 0);
        join(x, 0, 5, 2, 3, 1);
        CHECK.sentence("Terms the sum (2; by how many pairs, as a fraction): 3/2 is less than 2");
        x = made(2, new int[][] {{}, {0}, {1, 2}, {9, 9, 2}});
        join(x, 0, 5, 4, 2, 1);
        CHECK.sentence("Terms the sum (2; by how many pairs, as a fraction): 4/2 is as much as 2");
        x = made(2, new int[][] {{}, {0}, {1, 3}, {9, 9, 2}});
        join(x, 0, 5, 4, 2, 2);
    }

    private static void makeHeights() {
        CHECK.sentence("Terms HEIGHT of a JOIN: how far apart its groups were");
        int[][] table = {{}, {1}, {9, 4}, {10, 7, 11}};
        Subject x = made(0, table);
        join(x, 0, 5, 4, 2, 4);
        join(x, 0, 6, 5, 3, 7);
        x = made(1, table);
        join(x, 0, 5, 4, 2, 9);
        join(x, 0, 6, 5, 3, 11);
        CHECK.sentence("Terms HEIGHT (WAY 2: cut)");
        x = made(2, table);
        join(x, 0, 5, 4, 2, 6);
        join(x, 0, 6, 5, 3, 9);
        x.call("lay", 3, 2, 12);
        CHECK.due(x, 7, "make", 0, 2);
        join(x, 0, 6, 5, 3, 9);
        x.call("lay", 3, 2, 13);
        CHECK.due(x, 7, "make", 0, 2);
        join(x, 0, 6, 5, 3, 10);
        CHECK.sentence("Terms HEIGHT of a JOIN: how far apart its groups were, then");
        x.call("row", 3);
        join(x, 0, 6, 5, 3, 10);
    }

    private static void makeAnew() {
        CHECK.sentence("9 (anew)");
        Subject x = Subject.fresh();
        Furniture.someKept(x);
        CHECK.due(x, 13, "make", 0, 1);
        CHECK.due(x, 13, "make", 1, 1);
        CHECK.due(x, 3, "count", 2);
        CHECK.due(x, 0, "count", 4);
        for (int join = 7; join <= 12; join++) {
            CHECK.due(x, 0, "mark", 0, join, 2);
            CHECK.due(x, 0, "mark", 1, join, 2);
            CHECK.due(x, 2, "told", 1, join, 0);
        }
        CHECK.due(x, 1, "told", 0, 6, 0);
        CHECK.due(x, 0, "crossings", 0, 1);
        CHECK.due(x, 1, "mark", 2, 12, 2);
    }

    private static void makeRefused() {
        CHECK.sentence("9 BAD");
        for (int t : Subject.outside(0, 3)) {
            SOME.bad("make", t, 0);
            FULL.bad("make", t, 2);
        }
        for (int way : Subject.outside(0, 2)) {
            SOME.bad("make", 1, way);
            SOME.bad("make", 3, way);
            FULL.bad("make", 3, way);
        }
        CHECK.sentence("9 STATE: no LEAVES");
        for (int t = 0; t <= 3; t++) {
            NONE_THERE.state("make", t, t % 3);
        }
        CHECK.sentence("9 BAD ahead of STATE");
        for (int t : Subject.outside(0, 3)) {
            NONE_THERE.bad("make", t, 0);
        }
        for (int way : Subject.outside(0, 2)) {
            NONE_THERE.bad("make", 0, way);
        }
    }

    private static void dropFirstAndLast() {
        CHECK.sentence("10 A TREE is missing: 1");
        Subject x = Subject.fresh();
        Furniture.full(x);
        CHECK.due(x, 9, "count", 4);
        CHECK.due(x, 1, "drop", 0);
        CHECK.due(x, 1, "drop", 3);
        CHECK.due(x, 2, "count", 2);
        CHECK.due(x, 0, "count", 4);
        CHECK.due(x, Subject.FINDING, "order", 3, 0);
        CHECK.due(x, Subject.FINDING, "drop", 3);
        CHECK.due(x, 10, "told", 1, 18, 4);
        CHECK.due(x, 1, "drop", 1);
        CHECK.due(x, 1, "drop", 2);
        CHECK.due(x, 0, "count", 2);
        CHECK.sentence("10 what is MADE behind it is new");
        CHECK.due(x, 19, "make", 3, 0);
        CHECK.due(x, 0, "count", 4);
        CHECK.due(x, 0, "mark", 3, 18, 2);
    }

    private static void dropRefused() {
        CHECK.sentence("10 BAD; NOTHING");
        for (int t : Subject.outside(0, 3)) {
            NONE_THERE.bad("drop", t);
            SOME.bad("drop", t);
            FULL.bad("drop", t);
        }
        NONE_THERE.found(Subject.NOTHING, "drop", 0);
        NONE_THERE.found(Subject.NOTHING, "drop", 3);
        SOME.found(Subject.NOTHING, "drop", 3);
    }

    private static void toldFirstAndLast() {
        CHECK.sentence("11 Of a NODE of a TREE: 0 .. 5");
        Subject x = Subject.withAlike(10, 10000);
        x.call("make", 3, 1);
        int[][] want = {{1, -9, -9, 0, 1, 10}, {2, 0, 1, 10000, 2, 11}, {2, 17, 9, 10000, 10, -9}};
        int[] nodes = {0, 10, 18};
        for (int k = 0; k < nodes.length; k++) {
            for (int what = 0; what <= 5; what++) {
                CHECK.due(x, want[k][what], "told", 3, nodes[k], what);
            }
        }
        CHECK.due(x, 18, "told", 3, 9, 5);
    }

    private static void toldOfLeafAndTop() {
        CHECK.sentence("11 (NONE: a LEAF), (0: a LEAF), the JOIN of which it is a branch (NONE)");
        Subject x = Subject.withAlike(1, 0);
        x.call("make", 0, 2);
        int[] want = {1, -9, -9, 0, 1, -9};
        for (int what = 0; what <= 5; what++) {
            CHECK.due(x, want[what], "told", 0, 0, what);
        }
        x = Subject.withAlike(10, 3);
        x.call("make", 0, 2);
        for (int leaf = 0; leaf <= 9; leaf++) {
            CHECK.due(x, 1, "told", 0, leaf, 0);
            CHECK.due(x, Subject.NONE, "told", 0, leaf, 1);
            CHECK.due(x, Subject.NONE, "told", 0, leaf, 2);
            CHECK.due(x, 0, "told", 0, leaf, 3);
            CHECK.due(x, 1, "told", 0, leaf, 4);
        }
        CHECK.due(x, Subject.NONE, "told", 0, 18, 5);
        CHECK.due(x, 18, "told", 0, 17, 5);
    }

    /** What told() and mark() have in common: which NODES there are. */
    private static void nodeRefused(String name, int what) {
        CHECK.sentence((name.equals("told") ? "11" : "12") + " BAD; NOTHING; BEYOND: no such NODE");
        for (int t : Subject.outside(0, 3)) {
            NONE_THERE.bad(name, t, 0, what);
            SOME.bad(name, t, 0, what);
        }
        NONE_THERE.found(Subject.NOTHING, name, 0, 0, what);
        SOME.found(Subject.NOTHING, name, 3, 0, what);
        for (int node : Subject.outside(0, 6)) {
            SOME.found(Subject.BEYOND, name, 0, node, what);
        }
        for (int node : Subject.outside(0, 18)) {
            FULL.found(Subject.BEYOND, name, 3, node, what);
        }
        CHECK.sentence(name + " BAD ahead of NOTHING and BEYOND, NOTHING ahead of BEYOND");
        for (int node : Subject.outside(0, 12)) {
            SOME.bad(name, 4, node, what);
            SOME.bad(name, 1, node, 6);
            SOME.found(Subject.NOTHING, name, 3, node, what);
        }
        SOME.bad(name, 3, 0, 6);
        SOME.bad(name, 3, 99, -1);
        CHECK.sentence(name + " BEYOND: one LEAF has one NODE");
        Subject x = Subject.withAlike(1, 0);
        x.call("make", 0, 0);
        CHECK.due(x, Subject.FINDING, name, 0, 1, what);
        CHECK.due(x, Subject.BEYOND, "finding");
        CHECK.due(x, Subject.FINDING, name, 0, -1, what);
        CHECK.due(x, 2, "findings", 2);
        CHECK.sentence(name + " BEYOND: LEAVES that come later are no NODES of it");
        x.call("leaves", 10);
        CHECK.due(x, Subject.FINDING, name, 0, 9, what);
        CHECK.due(x, 3, "findings", 2);
    }

    private static void toldRefused() {
        CHECK.sentence("11 BAD");
        for (int what : Subject.outside(0, 5)) {
            NONE_THERE.bad("told", 0, 0, what);
            SOME.bad("told", 0, 0, what);
            FULL.bad("told", 3, 18, what);
        }
    }

    private static void markFirstAndLast() {
        CHECK.sentence("12 a LEAF its place in the ORDER");
        Subject x = Subject.withAlike(10, 1);
        x.call("make", 0, 0);
        for (int leaf = 0; leaf <= 9; leaf++) {
            CHECK.due(x, leaf, "mark", 0, leaf, 1);
        }
        x.call("turn", 0, 18);
        CHECK.due(x, 0, "mark", 0, 9, 1);
        CHECK.due(x, 1, "mark", 0, 0, 1);
        CHECK.due(x, 9, "mark", 0, 8, 1);
        CHECK.sentence("12 a JOIN (HELD, too) how often it was turned");
        CHECK.due(x, 0, "mark", 0, 10, 2);
        CHECK.due(x, 1, "mark", 0, 18, 2);
        x.call("turn", 0, 18);
        x.call("hold", 0, 18, 1);
        x.call("hold", 0, 10, 1);
        CHECK.due(x, 2, "mark", 0, 18, 2);
        CHECK.due(x, 0, "mark", 0, 10, 2);
        CHECK.due(x, 0, "mark", 0, 17, 2);
        CHECK.sentence("12 one LEAF");
        Subject one = Subject.withAlike(1, 0);
        one.call("make", 0, 0);
        CHECK.due(one, 0, "mark", 0, 0, 1);
        CHECK.due(one, Subject.FINDING, "mark", 0, 0, 2);
        CHECK.due(one, Subject.UNLIKE, "finding");
    }

    private static void markOfHeld() {
        CHECK.sentence("12 a HELD one how many JOINS below it are HELD, too");
        Subject x = Subject.withAlike(10, 1);
        x.call("make", 0, 0);
        x.call("hold", 0, 18, 1);
        CHECK.due(x, 0, "mark", 0, 18, 3);
        for (int join = 10; join < 18; join++) {
            x.call("hold", 0, join, 1);
            CHECK.due(x, join - 9, "mark", 0, 18, 3);
        }
        CHECK.due(x, 0, "mark", 0, 10, 3);
        CHECK.due(x, 1, "mark", 0, 11, 3);
        x.call("hold", 0, 10, 0);
        CHECK.due(x, 7, "mark", 0, 18, 3);
        CHECK.due(x, 0, "mark", 0, 11, 3);
        CHECK.sentence("12 a HELD one: below it, not beside it, nor in another TREE");
        Subject pairs = made(0, new int[][] {{}, {1}, {9, 9}, {9, 9, 2}});
        pairs.call("make", 1, 0);
        for (int join = 4; join <= 6; join++) {
            pairs.call("hold", 0, join, 1);
        }
        pairs.call("hold", 1, 6, 1);
        CHECK.due(pairs, 0, "mark", 0, 5, 3);
        CHECK.due(pairs, 2, "mark", 0, 6, 3);
        CHECK.due(pairs, 0, "mark", 1, 6, 3);
    }

    private static void markRefused() {
        CHECK.sentence("12 BAD: also KIND 0");
        for (int kind : new int[] {0, -1, 4, Subject.LOW, Subject.HIGH}) {
            NONE_THERE.bad("mark", 0, 0, kind);
            SOME.bad("mark", 0, 0, kind);
            SOME.bad("mark", 0, 6, kind);
        }
        CHECK.sentence("12 UNLIKE: the last LEAF, the first JOIN");
        SOME.found(Subject.UNLIKE, "mark", 0, 3, 2);
        SOME.found(Subject.UNLIKE, "mark", 0, 3, 3);
        SOME.found(Subject.UNLIKE, "mark", 0, 4, 1);
        SOME.found(Subject.UNLIKE, "mark", 0, 4, 3);
        SOME.found(Subject.UNLIKE, "mark", 0, 6, 1);
        FULL.found(Subject.UNLIKE, "mark", 0, 18, 3);
        FULL.found(Subject.UNLIKE, "mark", 3, 18, 1);
        CHECK.sentence("12 UNLIKE: not HELD any more");
        Subject x = Subject.fresh();
        Furniture.some(x);
        CHECK.due(x, 0, "mark", 0, 6, 3);
        x.call("hold", 0, 6, 0);
        CHECK.due(x, Subject.FINDING, "mark", 0, 6, 3);
        CHECK.due(x, Subject.UNLIKE, "finding");
    }

    private static void turnFirstAndLast() {
        CHECK.sentence("13 A TURN of a JOIN: how often it was turned");
        Subject x = Subject.withAlike(10, 1);
        x.call("make", 3, 0);
        CHECK.due(x, 1, "turn", 3, 10);
        CHECK.alike("order", x.orderOf(3), "1023456789");
        CHECK.due(x, 1, "turn", 3, 18);
        CHECK.alike("order", x.orderOf(3), "9102345678");
        CHECK.due(x, 9, "told", 3, 18, 1);
        CHECK.due(x, 17, "told", 3, 18, 2);
        CHECK.due(x, 2, "turn", 3, 10);
        CHECK.due(x, 2, "turn", 3, 18);
        CHECK.alike("order", x.orderOf(3), "0123456789");
        for (int often = 1; often <= 99; often++) {
            CHECK.due(x, often, "turn", 3, 14);
            CHECK.due(x, often, "mark", 3, 14, 2);
        }
        CHECK.alike("order", x.orderOf(3), "5012346789");
    }

    private static void turnRefused() {
        CHECK.sentence("13 BAD; NOTHING; BEYOND; UNLIKE: a LEAF");
        joinRefused("turn");
        CHECK.sentence("13 STATE: it is HELD");
        SOME.state("turn", 0, 6);
        SOME.state("turn", 1, 8);
        SOME.state("turn", 1, 12);
        FULL.state("turn", 3, 10);
        FULL.state("turn", 3, 18);
        KEPT.state("turn", 1, 12);
        CHECK.sentence("13 (STATE behind these.)");
        FULL.found(Subject.BEYOND, "turn", 3, 19);
        FULL.found(Subject.UNLIKE, "turn", 3, 9);
        CHECK.sentence("13 not HELD any more");
        Subject x = Subject.fresh();
        Furniture.some(x);
        x.call("hold", 0, 6, 0);
        CHECK.due(x, 1, "turn", 0, 6);
    }

    /** What turn() and hold() have in common; hold() takes what stands behind the NODE, too. */
    private static void joinRefused(String name) {
        for (int is = 0; is <= 1; is++) {
            for (int t : Subject.outside(0, 3)) {
                NONE_THERE.bad(name, t, 0, is);
                SOME.bad(name, t, 4, is);
                SOME.bad(name, t, 99, is);
            }
            NONE_THERE.found(Subject.NOTHING, name, 0, 0, is);
            SOME.found(Subject.NOTHING, name, 3, 0, is);
            for (int node : Subject.outside(0, 6)) {
                SOME.found(Subject.BEYOND, name, 0, node, is);
                SOME.found(Subject.NOTHING, name, 3, node, is);
            }
            for (int node : Subject.outside(0, 18)) {
                FULL.found(Subject.BEYOND, name, 0, node, is);
            }
            SOME.found(Subject.UNLIKE, name, 0, 0, is);
            SOME.found(Subject.UNLIKE, name, 0, 3, is);
            FULL.found(Subject.UNLIKE, name, 0, 9, is);
            Subject one = Subject.withAlike(1, 0);
            one.call("make", 0, 0);
            CHECK.due(one, Subject.FINDING, name, 0, 0, is);
            CHECK.due(one, Subject.UNLIKE, "finding");
            CHECK.due(one, Subject.FINDING, name, 0, 1, is);
            CHECK.due(one, Subject.BEYOND, "finding");
        }
    }

    private static void holdFirstAndLast() {
        CHECK.sentence("14 A JOIN is HELD, or not: 1 if it was");
        Subject x = Subject.withAlike(10, 1);
        x.call("make", 0, 0);
        for (int join = 10; join <= 18; join += 8) {
            CHECK.due(x, 0, "hold", 0, join, 0);
            CHECK.due(x, 2, "told", 0, join, 0);
            CHECK.due(x, 0, "hold", 0, join, 1);
            CHECK.due(x, 3, "told", 0, join, 0);
            CHECK.due(x, 1, "count", 4);
            CHECK.due(x, 1, "hold", 0, join, 1);
            CHECK.due(x, 1, "count", 4);
            CHECK.due(x, 1, "hold", 0, join, 0);
            CHECK.due(x, 2, "told", 0, join, 0);
            CHECK.due(x, 0, "hold", 0, join, 0);
            CHECK.due(x, 0, "count", 4);
        }
        CHECK.alike("order", x.orderOf(0), "0123456789");
    }

    private static void holdKeepsTurns() {
        CHECK.sentence("14 (How often it was turned stays.)");
        Subject x = Subject.withAlike(2, 1);
        x.call("make", 0, 0);
        x.call("turn", 0, 2);
        x.call("turn", 0, 2);
        x.call("turn", 0, 2);
        x.call("hold", 0, 2, 1);
        CHECK.due(x, 3, "mark", 0, 2, 2);
        CHECK.due(x, Subject.STATE, "turn", 0, 2);
        CHECK.due(x, 3, "mark", 0, 2, 2);
        x.call("hold", 0, 2, 0);
        CHECK.due(x, 3, "mark", 0, 2, 2);
        CHECK.due(x, 4, "turn", 0, 2);
    }

    private static void holdRefused() {
        CHECK.sentence("14 BAD; NOTHING; BEYOND; UNLIKE: a LEAF");
        joinRefused("hold");
    }

    private static void orderFirstAndLast() {
        CHECK.sentence("15 LEAF at place i of the ORDER; NONE: none such");
        Subject x = Subject.withAlike(10, 1);
        x.call("make", 3, 0);
        x.call("turn", 3, 18);
        CHECK.due(x, 9, "order", 3, 0);
        CHECK.due(x, 8, "order", 3, 9);
        for (int i : Subject.outside(0, 9)) {
            CHECK.due(x, Subject.NONE, "order", 3, i);
        }
        CHECK.due(x, 0, "finding");
        CHECK.sentence("15 NONE: LEAVES that came later are not in it");
        Subject fewer = Subject.fresh();
        Furniture.some(fewer);
        for (int i : Subject.outside(0, 3)) {
            CHECK.due(fewer, Subject.NONE, "order", 0, i);
        }
        CHECK.holds("a LEAF at the first place", fewer.call("order", 0, 0) >= 0);
        CHECK.holds("a LEAF at the last place", fewer.call("order", 0, 3) >= 0);
        Subject one = Subject.withAlike(1, 0);
        one.call("make", 0, 0);
        CHECK.due(one, 0, "order", 0, 0);
        CHECK.due(one, Subject.NONE, "order", 0, 1);
        CHECK.due(one, Subject.NONE, "order", 0, -1);
    }

    private static void orderRefused() {
        CHECK.sentence("15 BAD; NOTHING");
        for (int t : Subject.outside(0, 3)) {
            NONE_THERE.bad("order", t, 0);
            SOME.bad("order", t, 0);
            SOME.bad("order", t, 99);
        }
        NONE_THERE.found(Subject.NOTHING, "order", 0, 0);
        SOME.found(Subject.NOTHING, "order", 3, 0);
        CHECK.sentence("15 NOTHING ahead of NONE");
        SOME.found(Subject.NOTHING, "order", 3, -1);
        SOME.found(Subject.NOTHING, "order", 3, 10);
    }

    private static void priceFirstAndLast() {
        CHECK.sentence("16 PRICE of the ORDER: the sum of UNLIKENESS of neighbours");
        for (int n = 1; n <= 10; n++) {
            Subject x = Subject.withAlike(n, 10000);
            x.call("make", 3, 0);
            x.call("unlike", 0, n - 1);
            CHECK.due(x, 1, "price", 3);
            CHECK.due(x, 10000 * (n - 1), "asked");
        }
    }

    private static void priceAsRowsAreNow() {
        CHECK.sentence("16 as ROWS are now");
        Subject x = Subject.withAlike(3, 7);
        x.call("make", 0, 0);
        x.call("tear", 2);
        CHECK.due(x, 1, "price", 0);
        CHECK.due(x, 7, "asked");
        x.call("tear", 1);
        CHECK.due(x, 1, "price", 0);
        CHECK.due(x, 0, "asked");
        x.call("row", 2);
        x.call("lay", 2, 0, 5);
        CHECK.due(x, 1, "price", 0);
        CHECK.due(x, 0, "asked");
        x.call("lay", 2, 1, 6);
        CHECK.due(x, 1, "price", 0);
        CHECK.due(x, 6, "asked");
    }

    private static void priceRefused() {
        CHECK.sentence("16 BAD; NOTHING");
        for (int t : Subject.outside(0, 3)) {
            NONE_THERE.bad("price", t);
            SOME.bad("price", t);
        }
        NONE_THERE.found(Subject.NOTHING, "price", 0);
        SOME.found(Subject.NOTHING, "price", 3);
    }
}

/** Promises 17 to 26. */
public final class TurnsTest {
    private static final int HIGH = Integer.MAX_VALUE;
    private static final Check CHECK = new Check("TurnsTest");

    public static void main(String[] args) {
        best();
        bestOfAlike();
        bestWithHeld();
        crossings();
        face();
        faceBoth();
        fewest();
        keep();
        near();
        cut();
        group();
        same();
        CHECK.finish();
    }

    private static void orderDue(String what, LeafOrder x, int t, String want) {
        String got = Samples.orderOf(x, t);
        CHECK.holds(what + ": order " + want + ", got " + got, got.equals(want));
    }

    /** Trees 0 and 1 of n leaves that were joined in a row: ((0 1) 2) .. */
    private static LeafOrder chains(int n) {
        LeafOrder x = new LeafOrder();
        x.leaves(n);
        x.make(0, 0);
        x.make(1, 0);
        return x;
    }

    private static void best() {
        LeafOrder x = Samples.onLine(10, 0, 11, 1);
        CHECK.finding("17: missing", x, 0, x.best(0), 1);
        CHECK.due("17: tree -1", x.best(-1), LeafOrder.BAD);
        CHECK.due("17: tree 4", x.best(4), LeafOrder.BAD);
        x.make(0, 0);
        orderDue("17", x, 0, "0213");
        x.price(0);
        CHECK.due("17: price ahead", x.asked(), 13);
        CHECK.due("17: best", x.best(0), 2);
        CHECK.due("17: price", x.asked(), 11);
        orderDue("17", x, 0, "1302");
        CHECK.due("17: top turned", x.mark(0, 6, 2), 1);
        CHECK.due("17: no other", x.mark(0, 4, 2) + x.mark(0, 5, 2), 0);
        CHECK.due("17: no less", x.best(0), 0);
        CHECK.due("17: price again", x.asked(), 11);
        x.tear(2);
        x.tear(3);
        x.best(0);
        CHECK.due("17: as rows are now", x.asked(), 0);
        LeafOrder one = new LeafOrder();
        one.leaves(1);
        one.make(0, 0);
        CHECK.due("17: one leaf", one.best(0), 0);
        CHECK.due("17: costs nothing", one.asked(), 0);
    }

    private static void bestOfAlike() {
        LeafOrder x = chains(5);
        Samples.turnTo(x, 0, "43210");
        orderDue("17: turned", x, 0, "43210");
        CHECK.due("17: alike prices", x.best(0), 0);
        orderDue("17: the first of alike", x, 0, "01234");
        CHECK.due("17: each was turned twice", x.mark(0, 8, 2), 2);
        LeafOrder line = Samples.onLine(0, 1, 2);
        line.make(0, 0);
        Samples.turnTo(line, 0, "210");
        line.best(0);
        orderDue("17: a mirror is alike", line, 0, "012");
    }

    private static void bestWithHeld() {
        LeafOrder x = Samples.onLine(10, 0, 11, 1);
        x.make(0, 0);
        x.hold(0, 6, true);
        CHECK.due("17: with the top held", x.best(0), 2);
        CHECK.due("17: price", x.asked(), 11);
        orderDue("17: held", x, 0, "2031");
        x.hold(0, 4, true);
        x.hold(0, 5, true);
        x.hold(0, 6, false);
        CHECK.due("17: with the lower ones held", x.best(0), 0);
        x.hold(0, 6, true);
        Samples.turnTo(x, 0, "0213");
        CHECK.due("17: all held", x.best(0), 0);
        orderDue("17: all held", x, 0, "2031");
        LeafOrder chain = chains(3);
        chain.best(0);
        chain.turn(0, 4);
        chain.hold(0, 4, true);
        CHECK.due("17: held behind a best()", chain.best(0), 0);
        orderDue("17: what was best is out of reach", chain, 0, "201");
        chain.turn(0, 3);
        chain.hold(0, 3, true);
        chain.best(0);
        orderDue("17: and more so", chain, 0, "210");
    }

    private static void pairRefusals(String promise, LeafOrder x, int[] answers) {
        CHECK.due(promise + ": tree -1", answers[0], LeafOrder.BAD);
        CHECK.due(promise + ": tree 4", answers[1], LeafOrder.BAD);
        CHECK.due(promise + ": the other one is missing", answers[2], LeafOrder.FINDING);
        CHECK.due(promise + ": the first one is missing", answers[3], LeafOrder.FINDING);
        CHECK.due(promise + ": NOTHING", x.finding(), 1);
        CHECK.due(promise + ": each counts once", x.findings(1), 2);
        CHECK.due(promise + ": not as many", answers[4], LeafOrder.STATE);
        CHECK.due(promise + ": not as many", answers[5], LeafOrder.STATE);
    }

    /** Tree 0 of 3 leaves, tree 1 of 4; 2 and 3 are missing. */
    private static LeafOrder unequal() {
        LeafOrder x = chains(3);
        x.leaves(4);
        x.make(1, 0);
        return x;
    }

    private static void crossings() {
        LeafOrder x = unequal();
        pairRefusals("18", x, new int[] {x.crossings(-1, 0), x.crossings(0, 4), x.crossings(0, 2),
            x.crossings(3, 0), x.crossings(0, 1), x.crossings(1, 0)});
        x = chains(10);
        CHECK.due("18: as they were made", x.crossings(0, 1), 0);
        Samples.turnTo(x, 1, "9876543210");
        CHECK.due("18: all", x.crossings(0, 1), 45);
        CHECK.due("18: both ways alike", x.crossings(1, 0), 45);
        CHECK.due("18: itself", x.crossings(1, 1), 0);
        Samples.turnTo(x, 1, "9012345678");
        CHECK.due("18: one leaf with all", x.crossings(0, 1), 9);
    }

    private static void face() {
        LeafOrder x = unequal();
        pairRefusals("19", x, new int[] {x.face(-1, 0), x.face(0, 4), x.face(0, 2), x.face(3, 0), x.face(0, 1),
            x.face(1, 0)});
        CHECK.due("19: the same one", x.face(0, 0), LeafOrder.BAD);
        CHECK.due("19: the same one, missing", x.face(3, 3), LeafOrder.BAD);
        x = chains(5);
        Samples.turnTo(x, 1, "43201");
        orderDue("19", x, 1, "43201");
        CHECK.due("19: face", x.face(0, 1), 3);
        orderDue("19: looks", x, 0, "43201");
        orderDue("19: the other one stays", x, 1, "43201");
        CHECK.due("19: turned", x.mark(0, 8, 2), 1);
        CHECK.due("19: not turned", x.mark(0, 5, 2), 0);
        CHECK.due("19: nothing more", x.face(0, 1), 0);
        x.turn(1, 8);
        x.turn(1, 5);
        x.hold(0, 8, true);
        CHECK.due("19: but held ones", x.face(0, 1), 1);
        orderDue("19: held", x, 0, "43210");
        // The joins (0 3) and (1 2) of tree 0; tree 1 is ((0 1) 2) 3, so that the top crosses 2 of 4 pairs.
        LeafOrder alike = Samples.withRows(new int[][] {{}, {5}, {5, 1}, {1, 5, 5}});
        alike.make(0, 0);
        for (int i = 1; i < 4; i++) {
            alike.row(i);
        }
        alike.make(1, 0);
        CHECK.due("19: alike stays as it is", alike.face(0, 1), 0);
        orderDue("19: alike", alike, 0, "0312");
        alike.turn(0, 6);
        CHECK.due("19: on either side", alike.face(0, 1), 0);
        orderDue("19: alike", alike, 0, "1203");
    }

    private static void faceBoth() {
        LeafOrder x = unequal();
        pairRefusals("20", x, new int[] {x.faceBoth(-1, 0), x.faceBoth(0, 4), x.faceBoth(0, 2), x.faceBoth(3, 0),
            x.faceBoth(0, 1), x.faceBoth(1, 0)});
        CHECK.due("20: the same one", x.faceBoth(0, 0), LeafOrder.BAD);
        x = chains(5);
        Samples.turnTo(x, 1, "43201");
        CHECK.due("20: faceBoth", x.faceBoth(0, 1), 0);
        orderDue("20: the first one ahead", x, 0, "43201");
        orderDue("20: the other one has no cause", x, 1, "43201");
        for (int join = 5; join < 9; join++) {
            x.hold(0, join, true);
        }
        Samples.turnTo(x, 1, "01234");
        CHECK.due("20: all of the first one held", x.faceBoth(0, 1), 0);
        orderDue("20: the other one turns", x, 1, "43201");
        x.turn(1, 8);
        x.hold(1, 8, true);
        CHECK.due("20: what is held on both sides crosses", x.faceBoth(0, 1), 4);
        faceBothByTurns();
    }

    /** ((3 1) (0 2)) and ((1 (2 0)) 3): the first one turns, then the other one's top, then the first one again. */
    private static void faceBothByTurns() {
        LeafOrder x = Samples.withRows(new int[][] {{}, {7}, {2, 4}, {5, 3, 5}});
        x.make(0, 0);
        Samples.turnTo(x, 0, "3102");
        int[][] table = {{}, {9}, {0, 0}, {6, 2, 3}};
        for (int j = 1; j < 4; j++) {
            for (int i = 0; i < j; i++) {
                x.lay(j, i, table[j][i]);
            }
        }
        x.make(1, 0);
        Samples.turnTo(x, 1, "1203");
        orderDue("20: ahead", x, 0, "3102");
        orderDue("20: ahead", x, 1, "1203");
        CHECK.due("20: by turns", x.faceBoth(0, 1), 0);
        orderDue("20: by turns", x, 0, "3120");
        orderDue("20: by turns", x, 1, "3120");
        CHECK.due("20: (1 3) was turned there and back", x.mark(0, 5, 2), 3);
        CHECK.due("20: crossings then", x.crossings(0, 1), 0);
    }

    private static void fewest() {
        LeafOrder x = unequal();
        pairRefusals("21", x, new int[] {x.fewest(-1, 0), x.fewest(0, 4), x.fewest(0, 2), x.fewest(3, 0),
            x.fewest(0, 1), x.fewest(1, 0)});
        CHECK.due("21: the same one", x.fewest(0, 0), LeafOrder.BAD);
        x = chains(7);
        CHECK.due("21: more than 6", x.fewest(0, 1), LeafOrder.STATE);
        CHECK.finding("21: NOTHING ahead of more than 6", x, 0, x.fewest(0, 2), 1);
        x = chains(6);
        Samples.turnTo(x, 1, "543210");
        CHECK.due("21: fewest", x.fewest(0, 1), 0);
        orderDue("21: they stay", x, 0, "012345");
        orderDue("21: they stay", x, 1, "543210");
        CHECK.due("21: not turned", x.mark(0, 10, 2), 0);
        CHECK.due("21: turned once", x.mark(1, 10, 2), 1);
        x.hold(0, 10, true);
        CHECK.due("21: one side held", x.fewest(0, 1), 0);
        x.hold(1, 10, true);
        CHECK.due("21: both tops held", x.fewest(0, 1), 5);
        CHECK.due("21: both ways alike", x.fewest(1, 0), 5);
        x.hold(0, 10, false);
        for (int join = 6; join < 11; join++) {
            x.hold(1, join, true);
        }
        CHECK.due("21: all of the other one held", x.fewest(0, 1), 0);
        CHECK.due("21: all of the first one held", x.fewest(1, 0), 0);
        // ((0 2) (1 3)) and ((0 1) (2 3)): one crossing at the least.
        LeafOrder y = Samples.onLine(0, 10, 1, 11);
        y.make(0, 0);
        y.copy(2, 0, 1, 0, 1);
        y.lay(2, 0, 10);
        y.lay(3, 1, 10);
        y.lay(3, 2, 1);
        y.make(1, 0);
        CHECK.due("21: (0 1)", y.told(1, 4, 2), 1);
        CHECK.due("21: (2 3)", y.told(1, 5, 2), 3);
        CHECK.due("21: one at the least", y.fewest(0, 1), 1);
        LeafOrder one = chains(1);
        CHECK.due("21: one leaf", one.fewest(0, 1), 0);
    }

    private static void keep() {
        LeafOrder x = chains(4);
        CHECK.finding("22: missing", x, 0, x.keep(2), 1);
        CHECK.due("22: tree -1", x.keep(-1), LeafOrder.BAD);
        CHECK.due("22: tree 4", x.keep(4), LeafOrder.BAD);
        CHECK.due("22: none was told", x.near(0), LeafOrder.STATE);
        Samples.turnTo(x, 0, "3210");
        CHECK.due("22: keep", x.keep(0), 4);
        Samples.turnTo(x, 0, "0123");
        CHECK.due("22: near", x.near(1), 0);
        orderDue("22: as it was when told", x, 1, "3210");
        x.leaves(6);
        x.make(2, 0);
        CHECK.due("22: keep one of more leaves", x.keep(2), 6);
        CHECK.due("22: the latest is kept", x.near(1), 0);
        orderDue("22: the latest", x, 1, "0123");
        Samples.turnTo(x, 0, "3210");
        CHECK.due("22: keep one of fewer leaves", x.keep(0), 4);
        Samples.turnTo(x, 2, "543210");
        CHECK.due("22: near", x.near(2), 0);
        orderDue("22: 4 and 5 are not in it any more", x, 2, "543210");
        x.near(1);
        x.drop(0);
        x.turn(1, 6);
        CHECK.due("22: it outlasts its tree", x.near(1), 0);
        orderDue("22: as it was when told", x, 1, "3210");
    }

    private static void near() {
        LeafOrder x = chains(4);
        CHECK.finding("23: NOTHING ahead of STATE", x, 0, x.near(2), 1);
        CHECK.due("23: tree -1", x.near(-1), LeafOrder.BAD);
        CHECK.due("23: tree 4", x.near(4), LeafOrder.BAD);
        CHECK.due("23: no order was told", x.near(0), LeafOrder.STATE);
        Samples.turnTo(x, 0, "3210");
        x.keep(0);
        x.leaves(6);
        x.make(2, 0);
        CHECK.due("23: of more leaves", x.near(2), 0);
        orderDue("23: the new ones do not count", x, 2, "321045");
        CHECK.due("23: turned", x.mark(2, 6, 2), 1);
        Samples.turnTo(x, 2, "012345");
        x.hold(2, 8, true);
        CHECK.due("23: but held ones", x.near(2), 3);
        orderDue("23: held", x, 2, "210345");
        x.keep(2);
        CHECK.due("23: of fewer leaves", x.near(1), 0);
        orderDue("23: fewer", x, 1, "2103");
        // (0 2) (1 3) kept by 0123: one of four pairs crosses whichever way the top stands.
        LeafOrder y = Samples.onLine(0, 10, 1, 11);
        y.make(0, 0);
        y.turn(0, 4);
        for (int i = 1; i < 4; i++) {
            y.row(i);
        }
        y.make(1, 0);
        y.keep(1);
        CHECK.due("23: what can not be kept", y.near(0), 1);
        orderDue("23: near", y, 0, "0213");
    }

    private static void cut() {
        LeafOrder x = Samples.onLine(0, 1, 10, 12);
        CHECK.finding("24: missing", x, 0, x.cut(0, 0), 1);
        CHECK.due("24: tree -1", x.cut(-1, 0), LeafOrder.BAD);
        CHECK.due("24: tree 4", x.cut(4, 0), LeafOrder.BAD);
        CHECK.due("24: height -1", x.cut(0, -1), LeafOrder.BAD);
        CHECK.due("24: height 1000001", x.cut(0, 1000001), LeafOrder.BAD);
        x.make(0, 0);
        int[] want = {4, 3, 2, 2, 2, 2, 2, 2, 2, 1, 1};
        for (int height = 0; height < want.length; height++) {
            CHECK.due("24: cut(0, " + height + ")", x.cut(0, height), want[height]);
        }
        CHECK.due("24: cut(0, 1000000)", x.cut(0, 1000000), 1);
        x.hold(0, 4, true);
        CHECK.due("24: held or not", x.cut(0, 1), 3);
        LeafOrder nought = chains(10);
        CHECK.due("24: all at height 0", nought.cut(0, 0), 1);
    }

    private static void group() {
        LeafOrder x = Samples.onLine(0, 1, 10, 12);
        CHECK.due("25: no cut yet", x.group(0), LeafOrder.NONE);
        x.make(0, 0);
        x.turn(0, 6);
        x.cut(0, 1);
        groupsDue("25: 2 | 3 | 0 1", x, 2, 2, 0, 1);
        CHECK.due("25: group(-1)", x.group(-1), LeafOrder.NONE);
        CHECK.due("25: group(4)", x.group(4), LeafOrder.NONE);
        CHECK.due("25: group(9)", x.group(9), LeafOrder.NONE);
        CHECK.due("25: group(10)", x.group(10), LeafOrder.NONE);
        CHECK.due("25: group(high)", x.group(HIGH), LeafOrder.NONE);
        x.cut(0, -1);
        x.cut(1, 0);
        x.turn(0, 6);
        groupsDue("25: stays", x, 2, 2, 0, 1);
        x.make(1, 1);
        x.same(0, 1, 9);
        groupsDue("25: same() is no cut", x, 2, 2, 0, 1);
        x.drop(0);
        groupsDue("25: outlasts the tree", x, 2, 2, 0, 1);
        x.leaves(6);
        x.make(2, 0);
        x.cut(2, 0);
        CHECK.due("25: leaf 5", x.group(5), x.group(0));
        x.cut(1, 0);
        groupsDue("25: the latest", x, 0, 1, 2, 3);
        CHECK.due("25: leaf 5 is not in it", x.group(5), LeafOrder.NONE);
    }

    private static void groupsDue(String what, LeafOrder x, int... want) {
        for (int leaf = 0; leaf < want.length; leaf++) {
            CHECK.due(what + ": group(" + leaf + ")", x.group(leaf), want[leaf]);
        }
    }

    private static void same() {
        LeafOrder x = unequal();
        pairRefusals("26", x, new int[] {x.same(-1, 0, 0), x.same(0, 4, 0), x.same(0, 2, 0), x.same(3, 0, 0),
            x.same(0, 1, 0), x.same(1, 0, 0)});
        CHECK.due("26: height -1", x.same(0, 0, -1), LeafOrder.BAD);
        CHECK.due("26: height 1000001", x.same(2, 3, 1000001), LeafOrder.BAD);
        CHECK.due("26: with itself", x.same(1, 1, 0), 4);
        x = Samples.onLine(0, 1, 3, 10, 12);
        x.make(0, 0);
        x.make(1, 1);
        x.turn(1, 8);
        CHECK.due("26: one by one", x.same(0, 1, 0), 5);
        CHECK.due("26: (0 1)", x.same(0, 1, 1), 5);
        CHECK.due("26: (0 1 2) and (0 1) (2)", x.same(0, 1, 2), 2);
        CHECK.due("26: (0 1 2) (3 4)", x.same(0, 1, 3), 5);
        CHECK.due("26: (0 1 2 3 4) and (0 1 2) (3 4)", x.same(0, 1, 7), 0);
        CHECK.due("26: both ways alike", x.same(1, 0, 2), 2);
        CHECK.due("26: all", x.same(0, 1, 1000000), 5);
        orderOnly(x);
    }

    private static void orderOnly(LeafOrder x) {
        orderDue("26: nothing turns", x, 0, "01234");
        CHECK.due("26: no group", x.group(0), LeafOrder.NONE);
    }
}

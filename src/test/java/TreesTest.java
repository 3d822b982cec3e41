/** Promises 9 to 16. */
public final class TreesTest {
    private static final int LOW = Integer.MIN_VALUE, HIGH = Integer.MAX_VALUE;
    private static final Check CHECK = new Check("TreesTest");

    public static void main(String[] args) {
        makeRefused();
        makeByWays();
        makeAlike();
        makeAnew();
        drop();
        told();
        mark();
        turn();
        hold();
        order();
        price();
        CHECK.finish();
    }

    private static void makeRefused() {
        LeafOrder x = new LeafOrder();
        CHECK.due("9: no leaves", x.make(0, 0), LeafOrder.STATE);
        CHECK.due("9: BAD ahead of STATE", x.make(4, 0), LeafOrder.BAD);
        CHECK.due("9: way 3", x.make(0, 3), LeafOrder.BAD);
        CHECK.due("9: way -1", x.make(0, -1), LeafOrder.BAD);
        CHECK.due("9: tree -1", x.make(-1, 0), LeafOrder.BAD);
        CHECK.due("9: none came", x.count(2), 0);
        x.leaves(1);
        CHECK.due("9: one leaf", x.make(3, 1), 1);
        CHECK.due("9: it is the top", x.told(3, 0, 5), LeafOrder.NONE);
        CHECK.due("9: count(2)", x.count(2), 1);
        x.leaves(10);
        CHECK.due("9: ten leaves", x.make(2, 0), 19);
    }

    private static void join(LeafOrder x, int t, int node, int first, int other, int height) {
        String call = "9: told(" + t + ", " + node + ", ";
        CHECK.due(call + "1)", x.told(t, node, 1), first);
        CHECK.due(call + "2)", x.told(t, node, 2), other);
        CHECK.due(call + "3)", x.told(t, node, 3), height);
    }

    private static void makeByWays() {
        LeafOrder x = Samples.withRows(new int[][] {{}, {1}, {9, 4}, {10, 7, 6}});
        CHECK.due("9: make(0, 0)", x.make(0, 0), 7);
        join(x, 0, 4, 0, 1, 1);
        join(x, 0, 5, 4, 2, 4);
        join(x, 0, 6, 5, 3, 6);
        CHECK.due("9: make(1, 1)", x.make(1, 1), 7);
        join(x, 1, 4, 0, 1, 1);
        join(x, 1, 5, 2, 3, 6);
        join(x, 1, 6, 4, 5, 10);
        x.lay(3, 2, 7);
        CHECK.due("9: make(2, 2)", x.make(2, 2), 7);
        join(x, 2, 4, 0, 1, 1);
        join(x, 2, 5, 4, 2, 6);
        join(x, 2, 6, 5, 3, 8);
        x.lay(3, 2, 6);
        x.make(2, 2);
        join(x, 2, 5, 2, 3, 6);
        join(x, 2, 6, 4, 5, 7);
    }

    private static void makeAlike() {
        LeafOrder x = new LeafOrder();
        x.leaves(4);
        x.make(0, 2);
        join(x, 0, 4, 0, 1, 0);
        join(x, 0, 5, 4, 2, 0);
        join(x, 0, 6, 5, 3, 0);
        // (0, 3) and (1, 2) are alike: the pair with the least leaf of all goes ahead.
        x = Samples.withRows(new int[][] {{}, {5}, {5, 2}, {2, 5, 5}});
        x.make(0, 0);
        join(x, 0, 4, 0, 3, 2);
        join(x, 0, 5, 1, 2, 2);
        join(x, 0, 6, 4, 5, 5);
        // (0, 2) and (0, 3) are alike: the one whose other leaf is least goes ahead.
        x = Samples.withRows(new int[][] {{}, {5}, {2, 5}, {2, 5, 5}});
        x.make(0, 1);
        join(x, 0, 4, 0, 2, 2);
        join(x, 0, 5, 4, 1, 5);
        join(x, 0, 6, 5, 3, 5);
    }

    private static void makeAnew() {
        LeafOrder x = Samples.onLine(0, 1, 10);
        x.make(0, 0);
        x.turn(0, 3);
        x.hold(0, 4, true);
        x.lay(2, 0, 0);
        CHECK.due("9: heights stay as made", x.told(0, 4, 3), 9);
        x.make(0, 0);
        join(x, 0, 3, 0, 2, 0);
        join(x, 0, 4, 3, 1, 1);
        CHECK.due("9: anew, not turned", x.mark(0, 3, 2), 0);
        CHECK.due("9: anew, none held", x.count(4), 0);
        x.leaves(4);
        CHECK.due("9: anew, of more leaves", x.make(0, 0), 7);
        join(x, 0, 4, 0, 2, 0);
        join(x, 0, 5, 4, 3, 0);
        join(x, 0, 6, 5, 1, 0);
        LeafOrder grown = Samples.onLine(0, 3);
        grown.make(0, 0);
        CHECK.due("9: height of node 2", grown.told(0, 2, 3), 3);
        grown.leaves(3);
        grown.make(0, 0);
        for (int what = 0; what <= 5; what++) {
            int[] want = {1, -9, -9, 0, 1, 3};
            CHECK.due("9: node 2 is a leaf now, told " + what, grown.told(0, 2, what), want[what]);
        }
    }

    private static void drop() {
        LeafOrder x = Samples.onLine(0, 1);
        x.make(1, 0);
        x.hold(1, 2, true);
        CHECK.due("10: drop(-1)", x.drop(-1), LeafOrder.BAD);
        CHECK.due("10: drop(4)", x.drop(4), LeafOrder.BAD);
        CHECK.finding("10: missing", x, 0, x.drop(0), 1);
        CHECK.due("10: drop(1)", x.drop(1), 1);
        CHECK.finding("10: gone", x, 1, x.drop(1), 1);
        CHECK.due("10: no tree", x.count(2), 0);
        CHECK.due("10: none held", x.count(4), 0);
    }

    private static void told() {
        LeafOrder x = Samples.onLine(0, 1, 10, 12);
        CHECK.finding("11: missing", x, 0, x.told(0, 99, 0), 1);
        x.make(0, 0);
        x.hold(0, 5, true);
        due(x, 0, 1, -9, -9, 0, 1, 4);
        due(x, 3, 1, -9, -9, 0, 1, 5);
        due(x, 4, 2, 0, 1, 1, 2, 6);
        due(x, 5, 3, 2, 3, 2, 2, 6);
        due(x, 6, 2, 4, 5, 9, 4, -9);
        CHECK.due("11: tree -1", x.told(-1, 0, 0), LeafOrder.BAD);
        CHECK.due("11: tree 4", x.told(4, 0, 0), LeafOrder.BAD);
        CHECK.due("11: what -1", x.told(0, 0, -1), LeafOrder.BAD);
        CHECK.due("11: what 6, ahead of BEYOND", x.told(0, 99, 6), LeafOrder.BAD);
        CHECK.finding("11: node 7", x, 0, x.told(0, 7, 0), 2);
        CHECK.finding("11: node -1", x, 1, x.told(0, -1, 0), 2);
        CHECK.finding("11: node low", x, 2, x.told(0, LOW, 0), 2);
        CHECK.finding("11: node high", x, 3, x.told(0, HIGH, 0), 2);
    }

    private static void due(LeafOrder x, int node, int... want) {
        for (int what = 0; what <= 5; what++) {
            CHECK.due("11: told(0, " + node + ", " + what + ")", x.told(0, node, what), want[what]);
        }
    }

    private static void mark() {
        LeafOrder x = Samples.onLine(0, 1, 10, 12);
        CHECK.finding("12: missing", x, 0, x.mark(0, 99, 1), 1);
        x.make(0, 0);
        x.turn(0, 6);
        CHECK.due("12: place of 0", x.mark(0, 0, 1), 2);
        CHECK.due("12: place of 3", x.mark(0, 3, 1), 1);
        CHECK.due("12: turned once", x.mark(0, 6, 2), 1);
        CHECK.due("12: never turned", x.mark(0, 4, 2), 0);
        CHECK.finding("12: a leaf is no join", x, 0, x.mark(0, 0, 2), 3);
        CHECK.finding("12: a leaf is not held", x, 1, x.mark(0, 0, 3), 3);
        CHECK.finding("12: a join is no leaf", x, 2, x.mark(0, 4, 1), 3);
        CHECK.finding("12: it is not held", x, 3, x.mark(0, 6, 3), 3);
        x.hold(0, 6, true);
        CHECK.due("12: none below", x.mark(0, 6, 3), 0);
        x.hold(0, 4, true);
        CHECK.due("12: one below", x.mark(0, 6, 3), 1);
        x.hold(0, 5, true);
        CHECK.due("12: two below", x.mark(0, 6, 3), 2);
        CHECK.due("12: not those beside it", x.mark(0, 5, 3), 0);
        CHECK.due("12: a held one is a join", x.mark(0, 6, 2), 1);
        CHECK.due("12: kind 0", x.mark(0, 0, 0), LeafOrder.BAD);
        CHECK.due("12: kind 4", x.mark(0, 0, 4), LeafOrder.BAD);
        CHECK.due("12: kind -1", x.mark(0, 0, -1), LeafOrder.BAD);
        CHECK.due("12: BAD ahead of BEYOND", x.mark(0, 99, 0), LeafOrder.BAD);
        CHECK.due("12: tree 4", x.mark(4, 0, 1), LeafOrder.BAD);
        CHECK.finding("12: node 7", x, 0, x.mark(0, 7, 1), 2);
        CHECK.finding("12: node -1", x, 1, x.mark(0, -1, 1), 2);
        LeafOrder chain = new LeafOrder();
        chain.leaves(5);
        chain.make(0, 0);
        chain.hold(0, 5, true);
        chain.hold(0, 8, true);
        CHECK.due("12: far below counts", chain.mark(0, 8, 3), 1);
    }

    private static void turn() {
        LeafOrder x = Samples.onLine(0, 1, 10, 12);
        CHECK.finding("13: missing", x, 0, x.turn(0, 99), 1);
        x.make(0, 0);
        CHECK.due("13: tree -1", x.turn(-1, 4), LeafOrder.BAD);
        CHECK.due("13: tree 4", x.turn(4, 4), LeafOrder.BAD);
        CHECK.finding("13: node 7", x, 0, x.turn(0, 7), 2);
        CHECK.finding("13: node -1", x, 1, x.turn(0, -1), 2);
        CHECK.finding("13: a leaf", x, 0, x.turn(0, 3), 3);
        CHECK.due("13: turn", x.turn(0, 6), 1);
        CHECK.holds("13: 2301", Samples.orderOf(x, 0).equals("2301"));
        CHECK.due("13: its first branch", x.told(0, 6, 1), 5);
        CHECK.due("13: its other branch", x.told(0, 6, 2), 4);
        CHECK.due("13: turn", x.turn(0, 4), 1);
        CHECK.holds("13: 2310", Samples.orderOf(x, 0).equals("2310"));
        CHECK.due("13: turned back", x.turn(0, 6), 2);
        CHECK.holds("13: 1023", Samples.orderOf(x, 0).equals("1023"));
        x.hold(0, 6, true);
        CHECK.due("13: held", x.turn(0, 6), LeafOrder.STATE);
        CHECK.due("13: what is below may turn", x.turn(0, 5), 1);
        CHECK.holds("13: 1032", Samples.orderOf(x, 0).equals("1032"));
        CHECK.due("13: STATE is no finding", x.finding(), 3);
    }

    private static void hold() {
        LeafOrder x = Samples.onLine(0, 1, 10, 12);
        CHECK.finding("14: missing", x, 0, x.hold(0, 99, true), 1);
        x.make(0, 0);
        CHECK.due("14: tree -1", x.hold(-1, 4, true), LeafOrder.BAD);
        CHECK.due("14: tree 4", x.hold(4, 4, true), LeafOrder.BAD);
        CHECK.finding("14: node 7", x, 0, x.hold(0, 7, true), 2);
        CHECK.finding("14: node -1", x, 1, x.hold(0, -1, false), 2);
        CHECK.finding("14: a leaf", x, 0, x.hold(0, 0, false), 3);
        x.turn(0, 4);
        CHECK.due("14: hold", x.hold(0, 4, true), 0);
        CHECK.due("14: again", x.hold(0, 4, true), 1);
        CHECK.due("14: how often turned stays", x.mark(0, 4, 2), 1);
        CHECK.due("14: held in all", x.count(4), 1);
        CHECK.due("14: let go", x.hold(0, 4, false), 1);
        CHECK.due("14: again", x.hold(0, 4, false), 0);
        CHECK.due("14: turned twice", x.turn(0, 4), 2);
    }

    private static void order() {
        LeafOrder x = Samples.onLine(0, 10, 1);
        CHECK.finding("15: missing", x, 0, x.order(0, 99), 1);
        CHECK.due("15: tree -1", x.order(-1, 0), LeafOrder.BAD);
        CHECK.due("15: tree 4", x.order(4, 0), LeafOrder.BAD);
        x.make(0, 0);
        CHECK.due("15: order(0, 0)", x.order(0, 0), 0);
        CHECK.due("15: order(0, 1)", x.order(0, 1), 2);
        CHECK.due("15: order(0, 2)", x.order(0, 2), 1);
        CHECK.due("15: order(0, 3)", x.order(0, 3), LeafOrder.NONE);
        CHECK.due("15: order(0, -1)", x.order(0, -1), LeafOrder.NONE);
        CHECK.due("15: order(0, high)", x.order(0, HIGH), LeafOrder.NONE);
        x.leaves(5);
        CHECK.due("15: a later leaf is not in it", x.order(0, 3), LeafOrder.NONE);
    }

    private static void price() {
        LeafOrder x = Samples.onLine(0, 10, 1);
        CHECK.finding("16: missing", x, 0, x.price(0), 1);
        CHECK.due("16: tree -1", x.price(-1), LeafOrder.BAD);
        CHECK.due("16: tree 4", x.price(4), LeafOrder.BAD);
        x.make(0, 0);
        CHECK.due("16: price", x.price(0), 1);
        CHECK.due("16: 1 + 9", x.asked(), 10);
        x.lay(2, 1, 70);
        x.price(0);
        CHECK.due("16: as rows are now", x.asked(), 71);
        x.turn(0, 3);
        x.price(0);
        CHECK.due("16: 2 0 1", x.asked(), 11);
        LeafOrder one = new LeafOrder();
        one.leaves(1);
        one.make(0, 0);
        CHECK.due("16: one leaf", one.price(0), 1);
        CHECK.due("16: costs nothing", one.asked(), 0);
    }
}

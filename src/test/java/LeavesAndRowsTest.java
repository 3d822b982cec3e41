/** Promises 1 to 8. */
public final class LeavesAndRowsTest {
    private static final int LOW = Integer.MIN_VALUE, HIGH = Integer.MAX_VALUE;
    private static final Check CHECK = new Check("LeavesAndRowsTest");

    public static void main(String[] args) {
        newObject();
        leaves();
        row();
        lay();
        tear();
        copy();
        unlike();
        mean();
        CHECK.finish();
    }

    private static void newObject() {
        LeafOrder x = new LeafOrder();
        for (int what = 0; what <= 4; what++) {
            CHECK.due("1: count(" + what + ")", x.count(what), 0);
        }
        CHECK.due("1: asked()", x.asked(), 0);
        CHECK.due("1: finding()", x.finding(), 0);
        CHECK.due("1: group(0)", x.group(0), LeafOrder.NONE);
        CHECK.due("1: axis(0)", x.axis(0), LeafOrder.NONE);
        for (int f = 1; f <= 5; f++) {
            CHECK.due("1: findings(" + f + ")", x.findings(f), 0);
        }
        for (int t = 0; t < 4; t++) {
            CHECK.finding("1: drop of a tree that is missing", x, t, x.drop(t), 1);
        }
    }

    private static void leaves() {
        LeafOrder x = new LeafOrder();
        CHECK.due("2: leaves(0)", x.leaves(0), 0);
        CHECK.due("2: leaves(-1)", x.leaves(-1), LeafOrder.BAD);
        CHECK.due("2: leaves(11)", x.leaves(11), LeafOrder.BAD);
        CHECK.due("2: leaves(3)", x.leaves(3), 3);
        CHECK.due("2: fewer leaves", x.leaves(2), LeafOrder.BAD);
        CHECK.due("2: as many leaves", x.leaves(3), 3);
        x.row(2);
        x.lay(2, 1, 7);
        x.make(0, 0);
        CHECK.due("2: leaves(10)", x.leaves(10), 10);
        CHECK.due("2: count(0)", x.count(0), 10);
        CHECK.due("2: rows stay", x.count(1), 1);
        x.unlike(1, 2);
        CHECK.due("2: what rows tell stays", x.asked(), 7);
        CHECK.due("2: trees stay", x.told(0, 4, 4), 3);
        CHECK.due("2: leaves(low)", x.leaves(LOW), LeafOrder.BAD);
        CHECK.due("2: leaves(high)", x.leaves(HIGH), LeafOrder.BAD);
        CHECK.due("2: refused changes nothing", x.count(0), 10);
    }

    private static void row() {
        LeafOrder x = new LeafOrder();
        CHECK.due("3: row(0)", x.row(0), 0);
        CHECK.due("3: row(9)", x.row(9), 0);
        CHECK.due("3: row(-1)", x.row(-1), LeafOrder.BAD);
        CHECK.due("3: row(10)", x.row(10), LeafOrder.BAD);
        x.lay(9, 4, 90);
        CHECK.due("3: row(9) again", x.row(9), 1);
        CHECK.due("3: it is all 0", x.mean(9), 0);
        CHECK.due("3: rows that are there", x.count(1), 2);
        x.lay(9, 0, 90);
        x.tear(9);
        CHECK.due("3: row(9) behind tear(9)", x.row(9), 0);
        CHECK.due("3: all 0 then, too", x.mean(9), 0);
    }

    private static void lay() {
        LeafOrder x = new LeafOrder();
        CHECK.finding("4: no row", x, 0, x.lay(3, 0, 1), 1);
        CHECK.finding("4: no row ahead of no place", x, 1, x.lay(3, 10, 1), 1);
        x.row(3);
        CHECK.due("4: lay(3, 9, 10000)", x.lay(3, 9, 10000), 1);
        CHECK.due("4: it was 0", x.asked(), 0);
        CHECK.due("4: lay(3, 9, 0)", x.lay(3, 9, 0), 1);
        CHECK.due("4: it was 10000", x.asked(), 10000);
        CHECK.finding("4: place 10", x, 0, x.lay(3, 10, 1), 2);
        CHECK.finding("4: place -1", x, 1, x.lay(3, -1, 1), 2);
        CHECK.finding("4: place low", x, 2, x.lay(3, LOW, 1), 2);
        CHECK.due("4: v -1", x.lay(3, 0, -1), LeafOrder.BAD);
        CHECK.due("4: v 10001", x.lay(3, 0, 10001), LeafOrder.BAD);
        CHECK.due("4: row -1", x.lay(-1, 0, 1), LeafOrder.BAD);
        CHECK.due("4: row 10", x.lay(10, 0, 1), LeafOrder.BAD);
        CHECK.due("4: BAD ahead of findings", x.lay(5, 77, 10001), LeafOrder.BAD);
        CHECK.due("4: BAD is no finding", x.findings(1) + x.findings(2), 5);
        CHECK.due("4: refused tells nothing", x.asked(), 10000);
        CHECK.due("4: and lays nothing", x.mean(3), 0);
    }

    private static void tear() {
        LeafOrder x = Samples.withRows(new int[][] {{}, {5}});
        CHECK.due("5: tear(-1)", x.tear(-1), LeafOrder.BAD);
        CHECK.due("5: tear(10)", x.tear(10), LeafOrder.BAD);
        CHECK.finding("5: none there", x, 0, x.tear(0), 1);
        CHECK.due("5: tear(1)", x.tear(1), 1);
        CHECK.finding("5: gone", x, 1, x.tear(1), 1);
        CHECK.due("5: count(1)", x.count(1), 0);
        x.unlike(0, 1);
        CHECK.due("5: missing rows tell 0", x.asked(), 0);
    }

    private static void copy() {
        LeafOrder x = new LeafOrder();
        CHECK.due("6: row -1", x.copy(-1, 0, 0, 0, -1), LeafOrder.BAD);
        CHECK.due("6: to 10", x.copy(0, 0, 10, 0, -1), LeafOrder.BAD);
        CHECK.finding("6: SIZE ahead of NOTHING", x, 0, x.copy(0, 0, 1, 0, -1), 5);
        CHECK.finding("6: NOTHING ahead of BEYOND", x, 0, x.copy(0, 0, 1, 0, 11), 1);
        x.row(4);
        CHECK.finding("6: the other is missing", x, 1, x.copy(4, 0, 5, 0, 1), 1);
        CHECK.finding("6: the one is missing", x, 2, x.copy(5, 0, 4, 0, 1), 1);
        x.row(5);
        for (int j = 0; j < 10; j++) {
            x.lay(4, j, j + 1);
        }
        CHECK.finding("6: from -1", x, 0, x.copy(4, -1, 5, 0, 0), 2);
        CHECK.finding("6: at -1", x, 1, x.copy(4, 0, 5, -1, 0), 2);
        CHECK.finding("6: from 11", x, 2, x.copy(4, 11, 5, 0, 0), 2);
        CHECK.finding("6: too many from", x, 3, x.copy(4, 8, 5, 0, 3), 2);
        CHECK.finding("6: too many at", x, 4, x.copy(4, 0, 5, 8, 3), 2);
        CHECK.finding("6: a sum that wraps", x, 5, x.copy(4, 5, 5, 5, HIGH), 2);
        CHECK.finding("6: high places", x, 6, x.copy(4, HIGH, 5, HIGH, 1), 2);
        CHECK.due("6: none, at the end", x.copy(4, 10, 5, 10, 0), 1);
        CHECK.due("6: nothing came", x.mean(5), 0);
        CHECK.due("6: copy", x.copy(4, 2, 5, 0, 3), 1);
        CHECK.due("6: 3 4 5 0 0", x.mean(5), 12 / 5);
        CHECK.due("6: itself, to the right", x.copy(4, 0, 4, 1, 9), 1);
        CHECK.due("6: row 4", placesOf(x, 4), 1123456789L);
        CHECK.due("6: itself, to the left", x.copy(4, 2, 4, 0, 8), 1);
        CHECK.due("6: row 4", placesOf(x, 4), 2345678989L);
        CHECK.due("6: row 5", placesOf(x, 5), 3450000000L);
    }

    /** A row's places as digits; it reads them by laying what was there again. */
    private static long placesOf(LeafOrder x, int i) {
        long digits = 0;
        for (int j = 0; j < 10; j++) {
            x.lay(i, j, 0);
            int was = x.asked();
            x.lay(i, j, was);
            digits = 10 * digits + was;
        }
        return digits;
    }

    private static void unlike() {
        LeafOrder x = new LeafOrder();
        x.row(2);
        x.lay(2, 0, 20);
        x.lay(2, 2, 22);
        x.lay(2, 3, 23);
        CHECK.due("7: no leaf", x.unlike(0, 0), LeafOrder.BAD);
        x.leaves(2);
        CHECK.due("7: leaf 2 is none yet", x.unlike(0, 2), LeafOrder.BAD);
        x.leaves(4);
        told(x, 0, 2, 20);
        told(x, 2, 0, 20);
        told(x, 1, 2, 0);
        told(x, 2, 2, 0);
        told(x, 2, 3, 0);
        x.row(3);
        x.lay(3, 2, 32);
        told(x, 2, 3, 32);
        CHECK.due("7: -1", x.unlike(-1, 0), LeafOrder.BAD);
        CHECK.due("7: 4", x.unlike(0, 4), LeafOrder.BAD);
        CHECK.due("7: -1, -1", x.unlike(-1, -1), LeafOrder.BAD);
        CHECK.due("7: refused tells nothing", x.asked(), 32);
    }

    private static void told(LeafOrder x, int a, int b, int want) {
        CHECK.due("7: unlike(" + a + ", " + b + ")", x.unlike(a, b), 1);
        CHECK.due("7: unlike(" + a + ", " + b + ") told", x.asked(), want);
    }

    private static void mean() {
        LeafOrder x = new LeafOrder();
        CHECK.due("8: mean(-1)", x.mean(-1), LeafOrder.BAD);
        CHECK.due("8: mean(10)", x.mean(10), LeafOrder.BAD);
        CHECK.finding("8: NOTHING ahead of NOUGHT", x, 0, x.mean(0), 1);
        x.row(0);
        CHECK.finding("8: among none", x, 0, x.mean(0), 4);
        x.row(1);
        x.lay(1, 0, 10000);
        x.lay(1, 1, 5);
        CHECK.due("8: mean(1)", x.mean(1), 10000);
        x.row(3);
        x.lay(3, 0, 4);
        x.lay(3, 2, 7);
        x.lay(3, 3, 1000);
        CHECK.due("8: 11 of 3, cut", x.mean(3), 3);
        CHECK.due("8: it tells nothing to asked()", x.asked(), 0);
    }
}

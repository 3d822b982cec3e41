/** Promises 31 to 35. */
public final class ToldTest {
    private static final Check CHECK = new Check("ToldTest");

    public static void main(String[] args) {
        asked();
        count();
        findings();
        refusedChangesNothing();
        digest();
        CHECK.finish();
    }

    private static void asked() {
        LeafOrder x = new LeafOrder();
        CHECK.due("31: before", x.asked(), 0);
        x.leaves(3);
        x.row(1);
        x.lay(1, 0, 11);
        x.lay(1, 0, 12);
        CHECK.due("31: lay()", x.asked(), 11);
        x.unlike(0, 1);
        CHECK.due("31: unlike()", x.asked(), 12);
        x.make(0, 0);
        CHECK.due("31: make() does not tell", x.asked(), 12);
        x.price(0);
        CHECK.due("31: price()", x.asked(), 0);
        x.turn(0, 4);
        x.lay(1, 0, 13);
        x.best(0);
        CHECK.due("31: best()", x.asked(), 0);
        x.axes(2);
        x.worth(0, 1, 5);
        x.worth(0, 1, 6);
        CHECK.due("31: worth()", x.asked(), 5);
        x.laying();
        CHECK.due("31: laying()", x.asked(), 6);
        x.lay(9, 0, 0);
        x.unlike(0, 9);
        x.price(3);
        x.best(3);
        x.worth(0, 0, 0);
        x.mean(1);
        x.cut(0, 0);
        x.crossings(0, 0);
        x.keep(0);
        x.near(0);
        x.count(0);
        x.digest();
        CHECK.due("31: the others and what is refused do not tell", x.asked(), 6);
    }

    private static void count() {
        LeafOrder x = new LeafOrder();
        CHECK.due("32: count(-1)", x.count(-1), LeafOrder.BAD);
        CHECK.due("32: count(5)", x.count(5), LeafOrder.BAD);
        x.leaves(4);
        x.row(0);
        x.row(9);
        x.make(0, 0);
        x.make(2, 0);
        x.make(3, 0);
        x.axes(5);
        x.hold(0, 4, true);
        x.hold(2, 5, true);
        x.hold(3, 6, true);
        x.hold(3, 4, true);
        int[] want = {4, 2, 3, 5, 4};
        for (int what = 0; what < 5; what++) {
            CHECK.due("32: count(" + what + ")", x.count(what), want[what]);
        }
        x.drop(3);
        CHECK.due("32: trees", x.count(2), 2);
        CHECK.due("32: held joins of trees that are there", x.count(4), 2);
        CHECK.due("32: made anew", x.make(3, 0), 7);
        CHECK.due("32: none held in it", x.count(4), 2);
    }

    private static void findings() {
        LeafOrder x = new LeafOrder();
        CHECK.due("33: before any", x.finding(), 0);
        CHECK.due("34: findings(0)", x.findings(0), LeafOrder.BAD);
        CHECK.due("34: findings(6)", x.findings(6), LeafOrder.BAD);
        CHECK.due("34: findings(-1)", x.findings(-1), LeafOrder.BAD);
        x.row(0);
        x.leaves(2);
        x.make(0, 0);
        x.tear(5);
        CHECK.due("33: NOTHING", x.finding(), 1);
        x.lay(0, 10, 0);
        CHECK.due("33: BEYOND", x.finding(), 2);
        x.turn(0, 0);
        CHECK.due("33: UNLIKE", x.finding(), 3);
        x.mean(0);
        CHECK.due("33: NOUGHT", x.finding(), 4);
        x.copy(0, 0, 0, 0, -1);
        CHECK.due("33: SIZE", x.finding(), 5);
        x.row(10);
        x.near(0);
        x.order(0, 9);
        x.row(3);
        CHECK.due("33: nothing else is one", x.finding(), 5);
        for (int f = 1; f <= 5; f++) {
            CHECK.due("34: findings(" + f + ")", x.findings(f), 1);
        }
        x.mean(0);
        CHECK.due("34: twice", x.findings(4), 2);
    }

    private static void refusedChangesNothing() {
        LeafOrder x = Samples.onLine(0, 4, 1, 9);
        x.make(0, 0);
        x.hold(0, 6, true);
        x.axes(3);
        x.worth(0, 1, 2);
        x.cut(0, 3);
        long was = x.digest();
        x.leaves(1);
        x.lay(1, 99, 5);
        x.copy(1, 0, 2, 5, 6);
        x.make(0, 3);
        x.turn(0, 6);
        x.turn(0, 0);
        x.hold(0, 1, true);
        x.face(0, 0);
        x.faceBoth(0, 1);
        x.near(0);
        x.axes(-1);
        x.worth(0, 1, 2000);
        CHECK.due("refused calls change nothing", x.digest(), was);
        CHECK.due("nor the groups", x.group(3), 1);
    }

    private static long mix(long h, int... values) {
        long mixed = h;
        for (int v : values) {
            mixed = 31 * mixed + v;
        }
        return mixed;
    }

    private static void digest() {
        LeafOrder x = new LeafOrder();
        long h = mix(17, 0, 0, -1, -1, -1, -1, -1, -1, -1, -1, -1, -1, -1, -1, -1, -1);
        CHECK.due("35: a new object", x.digest(), h);
        x.leaves(3);
        x.row(2);
        x.lay(2, 0, 7);
        x.lay(2, 9, 8);
        x.row(1);
        x.lay(1, 0, 9);
        x.make(1, 1);
        x.turn(1, 4);
        x.hold(1, 3, true);
        x.axes(3);
        x.worth(1, 0, -4);
        x.worth(0, 2, 5);
        x.worth(1, 2, 6);
        h = mix(17, 3, 3, -1, 9, 0, 0, 0, 0, 0, 0, 0, 0, 0, 7, 0, 0, 0, 0, 0, 0, 0, 0, 8);
        h = mix(h, -1, -1, -1, -1, -1, -1, -1);
        h = mix(h, -1);
        h = mix(h, 1, -9, -9, 0, 1, 4);
        h = mix(h, 1, -9, -9, 0, 1, 3);
        h = mix(h, 1, -9, -9, 0, 1, 3);
        h = mix(h, 3, 1, 2, 0, 2, 4);
        h = mix(h, 2, 3, 0, 9, 3, -9);
        h = mix(h, -1, -1);
        h = mix(h, -4, 5, 6);
        CHECK.due("35: digest()", x.digest(), h);
        CHECK.due("35: it changes nothing", x.digest(), h);
        x.tear(2);
        x.drop(1);
        x.axes(0);
        h = mix(17, 3, 0, -1, 9, 0, 0, 0, 0, 0, 0, 0, 0, 0, -1, -1, -1, -1, -1, -1, -1, -1, -1, -1, -1, -1);
        CHECK.due("35: torn and dropped", x.digest(), h);
    }
}

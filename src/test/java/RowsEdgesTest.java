import java.util.Arrays;

/** The boundary cases of promises 1 to 8, a function for each sentence that names one. */
public final class RowsEdgesTest {
    private static final Check CHECK = new Check("RowsEdgesTest");
    private static final Refusals NONE_THERE = new Refusals(CHECK, Furniture::none);
    private static final Refusals SOME = new Refusals(CHECK, Furniture::some);
    private static final Refusals KEPT = new Refusals(CHECK, Furniture::someKept);
    private static final Refusals FULL = new Refusals(CHECK, Furniture::full);

    public static void main(String[] args) {
        nothingAtFirst();
        objectsShareNothing();
        leavesFirstAndLast();
        leavesNotFewer();
        rowsAndTreesStay();
        rowsTellAboveTheirLeaf();
        rowFirstAndLast();
        rowAllNought();
        rowRefused();
        layFirstAndLast();
        layRefused();
        tearFirstAndLast();
        tearRefused();
        copyFirstAndLast();
        copyAsIfTakenAhead();
        copyRefused();
        copyRefusedForTwoReasons();
        unlikeFirstAndLast();
        unlikeItself();
        unlikeMissing();
        unlikeRefused();
        meanFirstAndLast();
        meanCut();
        meanRefused();
        CHECK.finish();
    }

    private static void places(Subject x, int i, int... want) {
        String got = Arrays.toString(x.placesOf(i));
        CHECK.alike("places of row " + i, got, Arrays.toString(want));
    }

    private static void asked(Subject x, int want, String name, int... a) {
        CHECK.due(x, 1, name, a);
        CHECK.due(Subject.text(name, a) + " told", x.call("asked"), want);
    }

    /** A ROW with the places 1, 2, .. 10. */
    private static void layUp(Subject x, int i) {
        x.call("row", i);
        for (int j = 0; j < 10; j++) {
            x.call("lay", i, j, j + 1);
        }
    }

    private static void nothingAtFirst() {
        CHECK.sentence("1 No LEAVES, ROWS, TREES, AXES");
        Subject x = Subject.fresh();
        for (int what = 0; what <= 4; what++) {
            CHECK.due(x, 0, "count", what);
        }
        CHECK.due(x, 0, "asked");
        CHECK.due(x, 0, "finding");
        for (int f = 1; f <= 5; f++) {
            CHECK.due(x, 0, "findings", f);
        }
        for (int k = 0; k <= 10; k++) {
            CHECK.due(x, Subject.NONE, "group", k);
            CHECK.due(x, Subject.NONE, "axis", k);
        }
        CHECK.due(x, Subject.BAD, "unlike", 0, 0);
        CHECK.due(x, Subject.BAD, "worth", 0, 1, 0);
        CHECK.due(x, 0, "finding");
        for (int i = 0; i <= 9; i++) {
            CHECK.due(x, Subject.FINDING, "tear", i);
            CHECK.due(x, i + 1, "findings", 1);
        }
        for (int t = 0; t <= 3; t++) {
            CHECK.due(x, Subject.FINDING, "drop", t);
            CHECK.due(x, t + 11, "findings", 1);
        }
    }

    private static void objectsShareNothing() {
        CHECK.sentence("1 A new object");
        String want = Subject.fresh().picture();
        Subject full = Subject.fresh();
        Furniture.full(full);
        full.call("tear", 10);
        full.call("mean", 0);
        Subject x = Subject.fresh();
        CHECK.alike("findings", Arrays.toString(x.findings()), "[0, 0, 0, 0, 0, 0]");
        CHECK.alike("a new one behind a full one:", x.picture(), want);
    }

    private static void leavesFirstAndLast() {
        CHECK.sentence("2 n LEAVES (0 .. 10)");
        for (int n = 0; n <= 10; n++) {
            Subject x = Subject.fresh();
            CHECK.due(x, n, "leaves", n);
            CHECK.due(x, n, "count", 0);
            CHECK.due(x, n, "leaves", n);
        }
        Subject grown = Subject.fresh();
        for (int n = 0; n <= 10; n++) {
            CHECK.due(grown, n, "leaves", n);
        }
        for (int n : Subject.outside(0, 10)) {
            NONE_THERE.bad("leaves", n);
            SOME.bad("leaves", n);
            FULL.bad("leaves", n);
        }
    }

    private static void leavesNotFewer() {
        CHECK.sentence("2 not fewer than there were");
        for (int there = 1; there <= 10; there++) {
            Subject x = Subject.fresh();
            x.call("leaves", there);
            CHECK.due(x, Subject.BAD, "leaves", there - 1);
            CHECK.due(x, Subject.BAD, "leaves", 0);
            CHECK.due(x, there, "count", 0);
            CHECK.due(x, there, "leaves", there);
        }
        SOME.bad("leaves", 6);
        SOME.bad("leaves", 0);
        FULL.bad("leaves", 9);
    }

    private static void rowsAndTreesStay() {
        CHECK.sentence("2 (ROWS, TREES stay.)");
        Subject x = Subject.fresh();
        Furniture.someKept(x);
        Subject twin = Subject.fresh();
        Furniture.someKept(twin);
        CHECK.due(x, 10, "leaves", 10);
        CHECK.due(x, 7, "count", 1);
        CHECK.due(x, 3, "count", 2);
        CHECK.due(x, 3, "count", 4);
        for (int t = 0; t < 3; t++) {
            CHECK.alike("order of tree " + t, x.orderOf(t), twin.orderOf(t));
        }
        for (int j = 0; j <= 6; j++) {
            places(x, j, twin.placesOf(j));
        }
        CHECK.due(x, twin.call("near", 2), "near", 2);
    }

    private static void rowsTellAboveTheirLeaf() {
        CHECK.sentence("Terms (0, if that is missing, or n is not above j)");
        Subject x = Subject.fresh();
        x.call("row", 3);
        x.call("lay", 3, 0, 8);
        x.call("lay", 3, 2, 9);
        x.call("leaves", 3);
        CHECK.due(x, Subject.BAD, "unlike", 0, 3);
        CHECK.due(x, 5, "make", 0, 1);
        asked(x, 0, "price", 0);
        x.call("leaves", 4);
        asked(x, 8, "unlike", 0, 3);
        asked(x, 9, "unlike", 2, 3);
        asked(x, 0, "price", 0);
        x.call("make", 1, 1);
        CHECK.due(x, 9, "told", 1, 6, 3);
    }

    private static void rowFirstAndLast() {
        CHECK.sentence("3 ROW i (0 .. 9) is there: 1 if it was there, else 0");
        Subject x = Subject.fresh();
        for (int i = 0; i <= 9; i++) {
            CHECK.due(x, 0, "row", i);
            CHECK.due(x, i + 1, "count", 1);
        }
        for (int i = 0; i <= 9; i++) {
            CHECK.due(x, 1, "row", i);
            CHECK.due(x, 10, "count", 1);
        }
        CHECK.due(x, 1, "tear", 9);
        CHECK.due(x, 0, "row", 9);
        CHECK.due(x, 1, "row", 9);
        CHECK.due(x, 0, "count", 0);
    }

    private static void rowAllNought() {
        CHECK.sentence("3 all 0");
        Subject x = Subject.fresh();
        layUp(x, 0);
        layUp(x, 9);
        x.call("row", 9);
        places(x, 9, new int[10]);
        places(x, 0, 1, 2, 3, 4, 5, 6, 7, 8, 9, 10);
        x.call("tear", 0);
        x.call("row", 0);
        places(x, 0, new int[10]);
    }

    private static void rowRefused() {
        CHECK.sentence("3 BAD");
        for (int i : Subject.outside(0, 9)) {
            NONE_THERE.bad("row", i);
            SOME.bad("row", i);
            FULL.bad("row", i);
        }
    }

    private static void layFirstAndLast() {
        CHECK.sentence("4 Place j (0 .. 9) of ROW i is v (0 .. 10000): what it was");
        Subject x = Subject.fresh();
        for (int i = 0; i <= 9; i += 9) {
            x.call("row", i);
            for (int j = 0; j <= 9; j += 9) {
                asked(x, 0, "lay", i, j, 10000);
                asked(x, 10000, "lay", i, j, 0);
                asked(x, 0, "lay", i, j, 1);
                asked(x, 1, "lay", i, j, 9999);
                asked(x, 9999, "lay", i, j, 7);
            }
            places(x, i, 7, 0, 0, 0, 0, 0, 0, 0, 0, 7);
        }
        Subject all = Subject.fresh();
        for (int i = 0; i <= 9; i++) {
            all.call("row", i);
            for (int j = 0; j <= 9; j++) {
                all.call("lay", i, j, 10 * i + j);
            }
        }
        for (int i = 0; i <= 9; i++) {
            for (int j = 0; j <= 9; j++) {
                asked(all, 10 * i + j, "lay", i, j, 0);
            }
        }
    }

    private static void layRefused() {
        CHECK.sentence("4 BAD; NOTHING; BEYOND");
        for (int out : Subject.outside(0, 9)) {
            SOME.bad("lay", out, 0, 1);
            SOME.found(Subject.BEYOND, "lay", 1, out, 1);
            SOME.found(Subject.BEYOND, "lay", 0, out, 10000);
            FULL.found(Subject.BEYOND, "lay", 9, out, 0);
        }
        CHECK.sentence("4 BAD ahead of BEYOND, NOTHING ahead of BEYOND");
        for (int out : Subject.outside(0, 9)) {
            SOME.bad("lay", 10, out, 1);
            SOME.bad("lay", 1, out, 10001);
            SOME.found(Subject.NOTHING, "lay", 7, out, 1);
            NONE_THERE.found(Subject.NOTHING, "lay", 0, out, 1);
        }
        CHECK.sentence("4 BAD ahead of NOTHING");
        for (int v : Subject.outside(0, 10000)) {
            SOME.bad("lay", 1, 0, v);
            SOME.bad("lay", 7, 0, v);
            SOME.bad("lay", 7, 10, v);
        }
        CHECK.sentence("4 NOTHING");
        SOME.found(Subject.NOTHING, "lay", 7, 0, 0);
        SOME.found(Subject.NOTHING, "lay", 9, 9, 10000);
        NONE_THERE.found(Subject.NOTHING, "lay", 0, 0, 0);
    }

    private static void tearFirstAndLast() {
        CHECK.sentence("5 A ROW is missing: 1");
        Subject x = Subject.fresh();
        for (int i = 0; i <= 9; i++) {
            layUp(x, i);
        }
        CHECK.due(x, 1, "tear", 0);
        CHECK.due(x, 1, "tear", 9);
        CHECK.due(x, 8, "count", 1);
        CHECK.due(x, Subject.FINDING, "mean", 9);
        places(x, 1, 1, 2, 3, 4, 5, 6, 7, 8, 9, 10);
        for (int i = 1; i <= 8; i++) {
            CHECK.due(x, 1, "tear", i);
        }
        CHECK.due(x, 0, "count", 1);
    }

    private static void tearRefused() {
        CHECK.sentence("5 BAD; NOTHING");
        for (int i : Subject.outside(0, 9)) {
            NONE_THERE.bad("tear", i);
            SOME.bad("tear", i);
            FULL.bad("tear", i);
        }
        NONE_THERE.found(Subject.NOTHING, "tear", 0);
        NONE_THERE.found(Subject.NOTHING, "tear", 9);
        SOME.found(Subject.NOTHING, "tear", 7);
        Subject x = Subject.fresh();
        Furniture.full(x);
        CHECK.due(x, 1, "tear", 9);
        CHECK.due(x, Subject.FINDING, "tear", 9);
        CHECK.due(x, Subject.NOTHING, "finding");
    }

    private static Subject twoRows() {
        Subject x = Subject.fresh();
        layUp(x, 0);
        x.call("row", 9);
        return x;
    }

    private static void copyFirstAndLast() {
        CHECK.sentence("6 n places of a ROW, from one on, come to those of another one from one on: 1");
        Subject x = twoRows();
        CHECK.due(x, 1, "copy", 0, 0, 9, 0, 10);
        places(x, 9, 1, 2, 3, 4, 5, 6, 7, 8, 9, 10);
        places(x, 0, 1, 2, 3, 4, 5, 6, 7, 8, 9, 10);
        x = twoRows();
        CHECK.due(x, 1, "copy", 0, 9, 9, 9, 1);
        places(x, 9, 0, 0, 0, 0, 0, 0, 0, 0, 0, 10);
        CHECK.due(x, 1, "copy", 0, 9, 9, 0, 1);
        CHECK.due(x, 1, "copy", 0, 0, 9, 9, 1);
        places(x, 9, 10, 0, 0, 0, 0, 0, 0, 0, 0, 1);
        CHECK.due(x, 1, "copy", 0, 1, 9, 0, 9);
        places(x, 9, 2, 3, 4, 5, 6, 7, 8, 9, 10, 1);
        CHECK.due(x, 1, "copy", 0, 0, 9, 1, 9);
        places(x, 9, 2, 1, 2, 3, 4, 5, 6, 7, 8, 9);
        CHECK.sentence("6 none: SIZE is n below 0 alone, and none are there at the end, too");
        int[] ends = {0, 5, 10};
        for (int from : ends) {
            for (int at : ends) {
                CHECK.due(x, 1, "copy", 0, from, 9, at, 0);
            }
        }
        places(x, 9, 2, 1, 2, 3, 4, 5, 6, 7, 8, 9);
    }

    private static void copyAsIfTakenAhead() {
        CHECK.sentence("6 (perhaps itself), as if taken ahead");
        Subject x = twoRows();
        CHECK.due(x, 1, "copy", 0, 0, 0, 0, 10);
        places(x, 0, 1, 2, 3, 4, 5, 6, 7, 8, 9, 10);
        CHECK.due(x, 1, "copy", 0, 0, 0, 1, 9);
        places(x, 0, 1, 1, 2, 3, 4, 5, 6, 7, 8, 9);
        CHECK.due(x, 1, "copy", 0, 1, 0, 0, 9);
        places(x, 0, 1, 2, 3, 4, 5, 6, 7, 8, 9, 9);
        CHECK.due(x, 1, "copy", 0, 2, 0, 4, 4);
        places(x, 0, 1, 2, 3, 4, 3, 4, 5, 6, 9, 9);
    }

    private static void copyRefused() {
        CHECK.sentence("6 BAD");
        for (int out : Subject.outside(0, 9)) {
            SOME.bad("copy", out, 0, 1, 0, 1);
            SOME.bad("copy", 1, 0, out, 0, 1);
            NONE_THERE.bad("copy", out, 0, out, 0, 0);
        }
        CHECK.sentence("6 SIZE: n below 0");
        SOME.found(Subject.SIZE, "copy", 5, 0, 6, 0, -1);
        SOME.found(Subject.SIZE, "copy", 5, 0, 6, 0, Subject.LOW);
        CHECK.sentence("6 NOTHING: either");
        SOME.found(Subject.NOTHING, "copy", 7, 0, 6, 0, 1);
        SOME.found(Subject.NOTHING, "copy", 6, 0, 7, 0, 1);
        SOME.found(Subject.NOTHING, "copy", 7, 0, 8, 0, 1);
        SOME.found(Subject.NOTHING, "copy", 7, 0, 7, 0, 0);
        NONE_THERE.found(Subject.NOTHING, "copy", 0, 0, 9, 0, 0);
        CHECK.sentence("6 BEYOND: not so many there");
        int[][] beyond = {{0, 0, 11}, {1, 0, 10}, {0, 1, 10}, {9, 0, 2}, {0, 9, 2}, {10, 0, 1}, {0, 10, 1}, {11, 0, 0},
            {0, 11, 0}, {-1, 0, 0}, {0, -1, 0}, {-1, 0, 1}, {0, -1, 1}, {-1, 0, 11}};
        for (int[] b : beyond) {
            SOME.found(Subject.BEYOND, "copy", 5, b[0], 6, b[1], b[2]);
            SOME.found(Subject.BEYOND, "copy", 6, b[0], 6, b[1], b[2]);
        }
        CHECK.sentence("6 BEYOND: a sum that wraps around is none");
        int[] far = {1, 10, Subject.HIGH};
        for (int n : far) {
            FULL.found(Subject.BEYOND, "copy", 0, Subject.HIGH, 9, 0, n);
            FULL.found(Subject.BEYOND, "copy", 0, 0, 9, Subject.HIGH, n);
            FULL.found(Subject.BEYOND, "copy", 0, Subject.HIGH - n + 1, 9, 0, n);
            FULL.found(Subject.BEYOND, "copy", 0, 0, 9, Subject.LOW, n);
            FULL.found(Subject.BEYOND, "copy", 0, Subject.LOW, 9, 0, n);
        }
        FULL.found(Subject.BEYOND, "copy", 0, 0, 9, 0, Subject.HIGH);
        FULL.found(Subject.BEYOND, "copy", 0, 1, 9, 1, Subject.HIGH);
    }

    private static void copyRefusedForTwoReasons() {
        CHECK.sentence("6 BAD ahead of SIZE, NOTHING and BEYOND");
        SOME.bad("copy", 10, 0, 1, 0, -1);
        SOME.bad("copy", 1, 0, 10, 0, -1);
        SOME.bad("copy", -1, 0, 7, 0, 1);
        SOME.bad("copy", 7, 0, -1, 0, 1);
        SOME.bad("copy", 10, 11, 1, 0, 1);
        SOME.bad("copy", 10, 11, 7, 11, -1);
        CHECK.sentence("6 SIZE ahead of NOTHING and BEYOND");
        SOME.found(Subject.SIZE, "copy", 7, 0, 6, 0, -1);
        SOME.found(Subject.SIZE, "copy", 6, 0, 7, 0, -1);
        SOME.found(Subject.SIZE, "copy", 6, 11, 6, 0, -1);
        SOME.found(Subject.SIZE, "copy", 6, 0, 6, -1, -1);
        NONE_THERE.found(Subject.SIZE, "copy", 0, 0, 0, 0, -1);
        CHECK.sentence("6 NOTHING ahead of BEYOND");
        SOME.found(Subject.NOTHING, "copy", 7, 11, 6, 0, 1);
        SOME.found(Subject.NOTHING, "copy", 6, 0, 7, -1, 1);
        SOME.found(Subject.NOTHING, "copy", 6, 0, 7, 0, 11);
    }

    private static void unlikeFirstAndLast() {
        CHECK.sentence("7 UNLIKENESS of two LEAVES: i below j, place i of ROW j");
        Subject x = Subject.fresh();
        x.call("leaves", 10);
        x.call("row", 1);
        x.call("lay", 1, 0, 10000);
        layUp(x, 9);
        asked(x, 10000, "unlike", 0, 1);
        asked(x, 10000, "unlike", 1, 0);
        asked(x, 1, "unlike", 0, 9);
        asked(x, 1, "unlike", 9, 0);
        asked(x, 9, "unlike", 8, 9);
        asked(x, 9, "unlike", 9, 8);
        CHECK.sentence("7 places at and behind a ROW's own number tell nothing");
        layUp(x, 0);
        layUp(x, 4);
        x.call("lay", 9, 4, 77);
        asked(x, 4, "unlike", 3, 4);
        asked(x, 77, "unlike", 4, 9);
        asked(x, 0, "unlike", 4, 5);
        asked(x, 0, "unlike", 0, 5);
    }

    private static void unlikeItself() {
        CHECK.sentence("7 (0 of one and itself)");
        Subject x = Subject.fresh();
        x.call("leaves", 10);
        for (int i = 0; i <= 9; i++) {
            layUp(x, i);
            asked(x, 0, "unlike", i, i);
        }
        Subject one = Subject.fresh();
        one.call("leaves", 1);
        asked(one, 0, "unlike", 0, 0);
    }

    private static void unlikeMissing() {
        CHECK.sentence("7 (0, if that is missing)");
        Subject x = Subject.fresh();
        x.call("leaves", 10);
        layUp(x, 0);
        asked(x, 0, "unlike", 0, 9);
        asked(x, 0, "unlike", 9, 0);
        layUp(x, 9);
        asked(x, 1, "unlike", 0, 9);
        x.call("tear", 9);
        asked(x, 0, "unlike", 0, 9);
        x.call("row", 9);
        asked(x, 0, "unlike", 8, 9);
    }

    private static void unlikeRefused() {
        CHECK.sentence("7 BAD");
        NONE_THERE.bad("unlike", 0, 0);
        NONE_THERE.bad("unlike", 0, 1);
        for (int out : Subject.outside(0, 6)) {
            SOME.bad("unlike", out, 0);
            SOME.bad("unlike", 6, out);
            SOME.bad("unlike", out, out);
        }
        for (int out : Subject.outside(0, 9)) {
            FULL.bad("unlike", 0, out);
            FULL.bad("unlike", out, 9);
        }
    }

    private static void meanFirstAndLast() {
        CHECK.sentence("8 The mean of a ROW's places 0 .. i - 1");
        Subject x = Subject.fresh();
        layUp(x, 1);
        layUp(x, 2);
        layUp(x, 9);
        CHECK.due(x, 1, "mean", 1);
        CHECK.due(x, 1, "mean", 2);
        CHECK.due(x, 5, "mean", 9);
        x.call("lay", 9, 9, 10000);
        CHECK.due(x, 5, "mean", 9);
        for (int j = 0; j < 9; j++) {
            x.call("lay", 9, j, 10000);
        }
        CHECK.due(x, 10000, "mean", 9);
        x.call("row", 9);
        CHECK.due(x, 0, "mean", 9);
    }

    private static void meanCut() {
        CHECK.sentence("8 cut");
        Subject x = Subject.fresh();
        x.call("row", 9);
        x.call("lay", 9, 0, 8);
        CHECK.due(x, 0, "mean", 9);
        x.call("lay", 9, 8, 1);
        CHECK.due(x, 1, "mean", 9);
        x.call("lay", 9, 0, 16);
        CHECK.due(x, 1, "mean", 9);
        x.call("lay", 9, 0, 17);
        CHECK.due(x, 2, "mean", 9);
    }

    private static void meanRefused() {
        CHECK.sentence("8 BAD; NOTHING; NOUGHT: i is 0");
        for (int i : Subject.outside(0, 9)) {
            NONE_THERE.bad("mean", i);
            SOME.bad("mean", i);
        }
        SOME.found(Subject.NOTHING, "mean", 7);
        NONE_THERE.found(Subject.NOTHING, "mean", 9);
        SOME.found(Subject.NOUGHT, "mean", 0);
        KEPT.found(Subject.NOUGHT, "mean", 0);
        CHECK.sentence("8 NOTHING ahead of NOUGHT");
        NONE_THERE.found(Subject.NOTHING, "mean", 0);
    }
}

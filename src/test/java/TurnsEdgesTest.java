/** The boundary cases of promises 17 to 26, a function for each sentence that names one. */
public final class TurnsEdgesTest {
    private static final Check CHECK = new Check("TurnsEdgesTest");
    private static final Refusals NONE_THERE = new Refusals(CHECK, Furniture::none);
    private static final Refusals SOME = new Refusals(CHECK, Furniture::some);
    private static final Refusals KEPT = new Refusals(CHECK, Furniture::someKept);
    private static final Refusals FULL = new Refusals(CHECK, Furniture::full);

    public static void main(String[] args) {
        bestOfFewAndMany();
        bestTheFirstOfAlike();
        bestButHeld();
        bestByHowMuch();
        treeRefused("best", "17");
        crossingsNoneAndAll();
        pairRefused("crossings", "18");
        crossingsOfItself();
        faceNoneAndAll();
        faceAlikeStays();
        facingRefused("face", "19");
        faceBothTillNeitherTurns();
        facingRefused("faceBoth", "20");
        fewestUpToSix();
        fewestButHeld();
        fewestStayAsTheyAre();
        facingRefused("fewest", "21");
        fewestMoreThanSix();
        keepFirstAndLast();
        keepTheLatest();
        treeRefused("keep", "22");
        nearNoOrderTold();
        nearThoseInItAlone();
        nearNoneAndAll();
        nearOutlastsItsTree();
        treeRefused("near", "23");
        cutFirstAndLast();
        cutAtMost();
        cutRefused();
        groupNoneSuch();
        groupOfLatestCut();
        sameFirstAndLast();
        sameAllAndNone();
        pairRefused("same", "26");
        sameRefused();
        CHECK.finish();
    }

    /** TREES 0 and 1 of n LEAVES that were joined in a row: ((0 1) 2) .. */
    private static Subject chains(int n) {
        Subject x = Subject.fresh();
        x.call("leaves", n);
        x.call("make", 0, 0);
        x.call("make", 1, 0);
        return x;
    }

    /** Turns all JOINS of a TREE of n LEAVES, so that its ORDER goes the other way. */
    private static void mirror(Subject x, int t, int n) {
        for (int join = n; join <= 2 * n - 2; join++) {
            x.call("turn", t, join);
        }
    }

    private static void holdAll(Subject x, int t, int n) {
        for (int join = n; join <= 2 * n - 2; join++) {
            x.call("hold", t, join, 1);
        }
    }

    private static void order(Subject x, int t, String want) {
        CHECK.alike("order of tree " + t, x.orderOf(t), want);
    }

    private static void treeRefused(String name, String promise) {
        CHECK.sentence(promise + " BAD; NOTHING");
        for (int t : Subject.outside(0, 3)) {
            NONE_THERE.bad(name, t);
            SOME.bad(name, t);
            KEPT.bad(name, t);
            FULL.bad(name, t);
        }
        NONE_THERE.found(Subject.NOTHING, name, 0);
        NONE_THERE.found(Subject.NOTHING, name, 3);
        SOME.found(Subject.NOTHING, name, 3);
        KEPT.found(Subject.NOTHING, name, 3);
    }

    /** What calls with two TREES have in common; same() takes what stands behind them, too. */
    private static void pairRefused(String name, String promise) {
        CHECK.sentence(promise + " BAD");
        for (int out : Subject.outside(0, 3)) {
            SOME.bad(name, out, 1, 5);
            SOME.bad(name, 1, out, 5);
            FULL.bad(name, out, out, 5);
        }
        CHECK.sentence(promise + " BAD ahead of NOTHING");
        for (int out : Subject.outside(0, 3)) {
            NONE_THERE.bad(name, out, 0, 5);
            SOME.bad(name, 3, out, 5);
            SOME.bad(name, out, 3, 5);
        }
        CHECK.sentence(promise + " NOTHING: either");
        NONE_THERE.found(Subject.NOTHING, name, 0, 3, 5);
        SOME.found(Subject.NOTHING, name, 3, 1, 5);
        SOME.found(Subject.NOTHING, name, 1, 3, 5);
        KEPT.found(Subject.NOTHING, name, 3, 0, 5);
        CHECK.sentence(promise + " STATE: not as many LEAVES");
        SOME.state(name, 0, 1, 5);
        SOME.state(name, 1, 0, 5);
        KEPT.state(name, 2, 0, 5);
        Subject x = chains(10);
        Subject fewer = chains(9);
        fewer.call("leaves", 10);
        fewer.call("make", 1, 0);
        CHECK.due(x, name.equals("fewest") ? Subject.STATE : name.equals("same") ? 10 : 0, name, 0, 1, 5);
        CHECK.due(fewer, Subject.STATE, name, 0, 1, 5);
        CHECK.due(fewer, Subject.STATE, name, 1, 0, 5);
    }

    private static void facingRefused(String name, String promise) {
        pairRefused(name, promise);
        CHECK.sentence(promise + " BAD: also the same one");
        for (int t = 0; t <= 3; t++) {
            SOME.bad(name, t, t);
            FULL.bad(name, t, t);
        }
        CHECK.sentence(promise + " BAD: also the same one, ahead of NOTHING");
        for (int t = 0; t <= 3; t++) {
            NONE_THERE.bad(name, t, t);
        }
    }

    private static void bestOfFewAndMany() {
        CHECK.sentence("17 A TREE is turned to its BEST; PRICE by asked(): one LEAF");
        Subject one = chains(1);
        CHECK.due(one, 0, "best", 0);
        CHECK.due(one, 0, "asked");
        order(one, 0, "0");
        CHECK.sentence("17 A TREE is turned to its BEST; PRICE by asked(): two LEAVES");
        Subject two = Subject.withAlike(2, 10000);
        two.call("make", 3, 2);
        CHECK.due(two, 0, "best", 3);
        CHECK.due(two, 10000, "asked");
        CHECK.due(two, 0, "mark", 3, 2, 2);
        order(two, 3, "01");
        CHECK.sentence("17 A TREE is turned to its BEST; PRICE by asked(): ten LEAVES");
        Subject ten = Subject.withAlike(10, 10000);
        ten.call("make", 0, 0);
        mirror(ten, 0, 10);
        CHECK.due(ten, 0, "best", 0);
        CHECK.due(ten, 90000, "asked");
        order(ten, 0, "0123456789");
        for (int join = 10; join <= 18; join++) {
            CHECK.due(ten, 2, "mark", 0, join, 2);
        }
    }

    private static void bestTheFirstOfAlike() {
        CHECK.sentence("Terms of these the first (place by place by LEAVES)");
        Subject x = chains(2);
        x.call("turn", 0, 2);
        order(x, 0, "10");
        CHECK.due(x, 0, "best", 0);
        order(x, 0, "01");
        CHECK.due(x, 2, "mark", 0, 2, 2);
        CHECK.due(x, 0, "best", 0);
        CHECK.due(x, 2, "mark", 0, 2, 2);
        CHECK.sentence("Terms of these the first, a later place decides: 0123 and 0132");
        x = Subject.withRows(new int[][] {{}, {1}, {9, 9}, {9, 9, 2}});
        x.call("make", 0, 0);
        x.call("turn", 0, 5);
        order(x, 0, "0132");
        CHECK.due(x, 0, "best", 0);
        CHECK.due(x, 12, "asked");
        order(x, 0, "0123");
        CHECK.sentence("Terms those with the least PRICE, ahead of the first");
        x.call("lay", 3, 0, 8);
        CHECK.due(x, 1, "best", 0);
        CHECK.due(x, 11, "asked");
        order(x, 0, "1032");
    }

    private static void bestButHeld() {
        CHECK.sentence("Terms JOINS that are not HELD: all are HELD");
        Subject x = Subject.withAlike(10, 3);
        x.call("make", 0, 0);
        mirror(x, 0, 10);
        holdAll(x, 0, 10);
        x.call("unlike", 0, 0);
        CHECK.due(x, 0, "best", 0);
        CHECK.due(x, 27, "asked");
        order(x, 0, "9876543210");
        CHECK.sentence("Terms JOINS that are not HELD: all but the top are HELD");
        x.call("hold", 0, 18, 0);
        CHECK.due(x, 0, "best", 0);
        order(x, 0, "8765432109");
        CHECK.sentence("Terms JOINS that are not HELD: all but the lowest are HELD");
        x.call("hold", 0, 18, 1);
        x.call("hold", 0, 10, 0);
        CHECK.due(x, 0, "best", 0);
        order(x, 0, "8765432019");
        CHECK.due(x, 2, "mark", 0, 10, 2);
        CHECK.due(x, 1, "mark", 0, 11, 2);
        CHECK.due(x, 8, "count", 4);
    }

    private static void bestByHowMuch() {
        CHECK.sentence("17 by how much it is less than it was: as ROWS are now");
        Subject x = Subject.withRows(new int[][] {{}, {1}, {9, 9}});
        x.call("make", 0, 0);
        x.call("price", 0);
        CHECK.due(x, 10, "asked");
        x.call("lay", 2, 1, 5);
        x.call("lay", 2, 0, 3);
        CHECK.due(x, 2, "best", 0);
        CHECK.due(x, 4, "asked");
        order(x, 0, "102");
        CHECK.sentence("17 by how much it is less than it was: all, then nothing");
        Subject far = Subject.withRows(new int[][] {{}, {1}, {10000, 10000}, {0, 10000, 1}});
        far.call("make", 0, 1);
        order(far, 0, "0312");
        CHECK.due(far, 19998, "best", 0);
        CHECK.due(far, 2, "asked");
        order(far, 0, "1032");
        CHECK.due(far, 0, "best", 0);
        CHECK.due(far, 2, "asked");
    }

    private static void crossingsNoneAndAll() {
        CHECK.sentence("18 CROSSINGS: how many pairs of LEAVES stand otherwise: none, all");
        for (int n = 1; n <= 10; n++) {
            Subject x = chains(n);
            CHECK.due(x, 0, "crossings", 0, 1);
            mirror(x, 1, n);
            CHECK.due(x, n * (n - 1) / 2, "crossings", 0, 1);
            CHECK.due(x, n * (n - 1) / 2, "crossings", 1, 0);
        }
    }

    private static void crossingsOfItself() {
        CHECK.sentence("18 CROSSINGS of two TREES: one and itself");
        Subject x = chains(10);
        mirror(x, 1, 10);
        CHECK.due(x, 0, "crossings", 1, 1);
        SOME.found(Subject.NOTHING, "crossings", 3, 3);
        NONE_THERE.found(Subject.NOTHING, "crossings", 0, 0);
    }

    private static void faceNoneAndAll() {
        CHECK.sentence("19 how many JOINS were turned: all, then none");
        for (int n = 1; n <= 10; n++) {
            Subject x = chains(n);
            mirror(x, 1, n);
            CHECK.due(x, n - 1, "face", 0, 1);
            CHECK.due(x, 0, "face", 0, 1);
            CHECK.due(x, 0, "crossings", 0, 1);
            CHECK.due(x, n == 1 ? Subject.FINDING : 1, "mark", 0, 2 * n - 2, 2);
        }
        CHECK.sentence("Terms LOOKING AT (but HELD JOINS): all are HELD");
        Subject x = chains(10);
        mirror(x, 1, 10);
        holdAll(x, 0, 10);
        CHECK.due(x, 0, "face", 0, 1);
        CHECK.due(x, 45, "crossings", 0, 1);
        CHECK.sentence("Terms LOOKING AT (but HELD JOINS): HELD ones of the other TREE do not count");
        CHECK.due(x, 9, "face", 1, 0);
        CHECK.due(x, 0, "crossings", 0, 1);
    }

    /** TREE 0 is ((0 3) (1 2)), TREE 1 (((0 1) 2) 3): two of four pairs cross at the top of TREE 0 either way. */
    private static Subject alikeSides() {
        Subject x = Subject.withRows(new int[][] {{}, {5}, {5, 1}, {1, 5, 5}});
        x.call("make", 0, 0);
        for (int i = 1; i < 4; i++) {
            x.call("row", i);
        }
        x.call("make", 1, 0);
        return x;
    }

    private static void faceAlikeStays() {
        CHECK.sentence("Terms LOOKING AT (alike: as it is)");
        Subject x = alikeSides();
        CHECK.due(x, 0, "face", 0, 1);
        order(x, 0, "0312");
        x.call("turn", 0, 6);
        CHECK.due(x, 0, "face", 0, 1);
        order(x, 0, "1203");
        CHECK.due(x, 1, "mark", 0, 6, 2);
        CHECK.sentence("23 alike: as it is");
        x.call("keep", 1);
        CHECK.due(x, 2, "near", 0);
        order(x, 0, "1203");
        x.call("turn", 0, 6);
        CHECK.due(x, 2, "near", 0);
        order(x, 0, "0312");
    }

    private static void faceBothTillNeitherTurns() {
        CHECK.sentence("20 till neither turns any more: CROSSINGS then");
        Subject one = chains(1);
        CHECK.due(one, 0, "faceBoth", 0, 1);
        Subject x = chains(10);
        mirror(x, 1, 10);
        CHECK.due(x, 0, "faceBoth", 1, 0);
        order(x, 0, "0123456789");
        order(x, 1, "0123456789");
        CHECK.due(x, 0, "mark", 0, 18, 2);
        CHECK.due(x, 2, "mark", 1, 18, 2);
        CHECK.sentence("20 till neither turns any more: the first one can not, the other one does");
        mirror(x, 1, 10);
        holdAll(x, 1, 10);
        CHECK.due(x, 0, "faceBoth", 1, 0);
        order(x, 0, "9876543210");
        order(x, 1, "9876543210");
        CHECK.sentence("20 till neither turns any more: none can");
        mirror(x, 0, 10);
        holdAll(x, 0, 10);
        CHECK.due(x, 45, "faceBoth", 0, 1);
        order(x, 0, "0123456789");
        CHECK.due(x, 2, "mark", 0, 18, 2);
        CHECK.sentence("20 till neither turns any more: alike sides stay");
        Subject alike = alikeSides();
        alike.call("hold", 1, 6, 1);
        CHECK.due(alike, 2, "faceBoth", 0, 1);
        order(alike, 0, "0312");
        order(alike, 1, "0123");
    }

    private static void fewestUpToSix() {
        CHECK.sentence("21 also more than 6 LEAVES: 1 .. 6 are fine, 7 .. 10 are not");
        for (int n = 1; n <= 10; n++) {
            Subject x = chains(n);
            mirror(x, 1, n);
            CHECK.due(x, n <= 6 ? 0 : Subject.STATE, "fewest", 0, 1);
            CHECK.due(x, n <= 6 ? 0 : Subject.STATE, "fewest", 1, 0);
            CHECK.due(x, 0, "finding");
        }
    }

    private static void fewestButHeld() {
        CHECK.sentence("21 (but HELD JOINS): all of one, all of both");
        for (int n = 1; n <= 6; n++) {
            Subject x = chains(n);
            mirror(x, 1, n);
            holdAll(x, 0, n);
            CHECK.due(x, 0, "fewest", 0, 1);
            CHECK.due(x, 0, "fewest", 1, 0);
            holdAll(x, 1, n);
            CHECK.due(x, n * (n - 1) / 2, "fewest", 0, 1);
            CHECK.due(x, n * (n - 1) / 2, "fewest", 1, 0);
        }
    }

    private static void fewestStayAsTheyAre() {
        CHECK.sentence("21 they stay as they are");
        Subject x = chains(6);
        mirror(x, 1, 6);
        String was = x.picture();
        CHECK.due(x, 0, "fewest", 0, 1);
        CHECK.alike("all:", x.picture(), was);
    }

    private static void fewestMoreThanSix() {
        CHECK.sentence("21 NOTHING ahead of STATE: more than 6 LEAVES");
        SOME.found(Subject.NOTHING, "fewest", 1, 3);
        SOME.found(Subject.NOTHING, "fewest", 3, 2);
        CHECK.sentence("21 BAD ahead of STATE: more than 6 LEAVES");
        SOME.bad("fewest", 1, 1);
        SOME.bad("fewest", 4, 1);
        CHECK.sentence("21 STATE: more than 6 LEAVES");
        SOME.state("fewest", 1, 2);
        SOME.state("fewest", 2, 1);
        FULL.state("fewest", 0, 3);
    }

    private static void keepFirstAndLast() {
        CHECK.sentence("22 how many LEAVES");
        for (int n = 1; n <= 10; n++) {
            Subject x = chains(n);
            CHECK.due(x, n, "keep", 0);
            CHECK.due(x, 0, "near", 1);
            CHECK.due(x, n, "keep", 1);
        }
    }

    private static void keepTheLatest() {
        CHECK.sentence("22 The ORDER of a TREE is told as that to be kept: as it is then, the latest one");
        Subject x = chains(3);
        x.call("keep", 0);
        mirror(x, 0, 3);
        CHECK.due(x, 0, "near", 0);
        order(x, 0, "012");
        mirror(x, 0, 3);
        x.call("keep", 0);
        CHECK.due(x, 0, "near", 1);
        order(x, 1, "210");
        CHECK.sentence("22 refused: the one told ahead is kept");
        CHECK.due(x, Subject.FINDING, "keep", 2);
        CHECK.due(x, Subject.BAD, "keep", 4);
        mirror(x, 1, 3);
        CHECK.due(x, 0, "near", 1);
        order(x, 1, "210");
    }

    private static void nearNoOrderTold() {
        CHECK.sentence("23 STATE: no ORDER was told");
        SOME.state("near", 0);
        SOME.state("near", 2);
        Subject x = chains(1);
        CHECK.due(x, Subject.STATE, "near", 0);
        x.call("keep", 2);
        x.call("keep", 4);
        CHECK.due(x, Subject.STATE, "near", 0);
        x.call("keep", 1);
        CHECK.due(x, 0, "near", 0);
        CHECK.sentence("23 BAD and NOTHING ahead of STATE");
        NONE_THERE.found(Subject.NOTHING, "near", 0);
        SOME.found(Subject.NOTHING, "near", 3);
        SOME.bad("near", 4);
    }

    private static void nearThoseInItAlone() {
        CHECK.sentence("Terms KEPT (those LEAVES of the TREE that are in it alone count): one is in it");
        Subject x = chains(1);
        x.call("keep", 0);
        x.call("leaves", 10);
        x.call("make", 2, 0);
        mirror(x, 2, 10);
        CHECK.due(x, 0, "near", 2);
        order(x, 2, "9876543210");
        CHECK.sentence("Terms KEPT (those LEAVES of the TREE that are in it alone count): the TREE has one");
        x.call("keep", 2);
        CHECK.due(x, 0, "near", 0);
        order(x, 0, "0");
        CHECK.sentence("Terms KEPT (those LEAVES of the TREE that are in it alone count): all but one");
        Subject y = chains(9);
        y.call("keep", 0);
        y.call("leaves", 10);
        y.call("make", 2, 0);
        mirror(y, 2, 10);
        CHECK.due(y, 0, "near", 2);
        order(y, 2, "9012345678");
        CHECK.due(y, 1, "mark", 2, 18, 2);
        CHECK.due(y, 2, "mark", 2, 17, 2);
    }

    private static void nearNoneAndAll() {
        CHECK.sentence("23 how many pairs stand otherwise then: none, all");
        Subject x = chains(10);
        x.call("keep", 0);
        mirror(x, 1, 10);
        CHECK.due(x, 0, "near", 1);
        order(x, 1, "0123456789");
        mirror(x, 1, 10);
        holdAll(x, 1, 10);
        CHECK.due(x, 45, "near", 1);
        order(x, 1, "9876543210");
        CHECK.due(x, 3, "mark", 1, 18, 2);
    }

    private static void nearOutlastsItsTree() {
        CHECK.sentence("22 The ORDER is told: what becomes of its TREE does not matter");
        Subject x = chains(3);
        mirror(x, 0, 3);
        x.call("keep", 0);
        x.call("drop", 0);
        CHECK.due(x, 0, "near", 1);
        order(x, 1, "210");
        x.call("leaves", 5);
        x.call("make", 0, 0);
        mirror(x, 1, 3);
        CHECK.due(x, 0, "near", 1);
        order(x, 1, "210");
    }

    private static void cutFirstAndLast() {
        CHECK.sentence("24 a height (0 .. 1000000)");
        Subject x = chains(10);
        CHECK.due(x, 1, "cut", 0, 0);
        CHECK.due(x, 1, "cut", 0, 1000000);
        Subject far = Subject.withAlike(10, 10000);
        far.call("make", 3, 2);
        CHECK.due(far, 10, "cut", 3, 0);
        CHECK.due(far, 9, "group", 9);
        CHECK.due(far, 10, "cut", 3, 9999);
        CHECK.due(far, 1, "cut", 3, 10000);
        CHECK.due(far, 0, "group", 9);
        CHECK.due(far, 1, "cut", 3, 1000000);
        CHECK.due(chains(1), 1, "cut", 0, 0);
        CHECK.due(chains(1), 1, "cut", 0, 1000000);
    }

    private static void cutAtMost() {
        CHECK.sentence("Terms a JOIN with a HEIGHT of t at most");
        Subject x = Subject.withRows(new int[][] {{}, {1}, {9, 9}, {9, 9, 4}});
        x.call("make", 0, 0);
        int[][] want = {{0, 4}, {1, 3}, {3, 3}, {4, 2}, {5, 2}, {8, 2}, {9, 1}, {10, 1}};
        for (int[] w : want) {
            CHECK.due(x, w[1], "cut", 0, w[0]);
        }
        CHECK.sentence("Terms HEIGHT (WAY 2: cut): 3/2 is held together at 1, not at 0");
        Subject cut = Subject.withRows(new int[][] {{}, {0}, {1, 2}});
        cut.call("make", 0, 2);
        CHECK.due(cut, 2, "cut", 0, 0);
        CHECK.due(cut, 1, "cut", 0, 1);
        CHECK.sentence("24 HEIGHTS are those of make(), whatever ROWS are now");
        cut.call("tear", 2);
        CHECK.due(cut, 2, "cut", 0, 0);
    }

    private static void cutRefused() {
        CHECK.sentence("24 BAD");
        for (int height : Subject.outside(0, 1000000)) {
            SOME.bad("cut", 1, height);
            FULL.bad("cut", 0, height);
        }
        CHECK.sentence("24 BAD ahead of NOTHING");
        for (int height : Subject.outside(0, 1000000)) {
            SOME.bad("cut", 3, height);
            NONE_THERE.bad("cut", 0, height);
        }
        for (int t : Subject.outside(0, 3)) {
            SOME.bad("cut", t, 0);
            NONE_THERE.bad("cut", t, 1000000);
        }
        CHECK.sentence("24 NOTHING");
        SOME.found(Subject.NOTHING, "cut", 3, 0);
        NONE_THERE.found(Subject.NOTHING, "cut", 0, 1000000);
    }

    private static void groupNoneSuch() {
        CHECK.sentence("25 NONE: none such");
        Subject x = chains(3);
        for (int leaf = -1; leaf <= 10; leaf++) {
            CHECK.due(x, Subject.NONE, "group", leaf);
        }
        x.call("cut", 0, 0);
        CHECK.due(x, 0, "group", 0);
        CHECK.due(x, 0, "group", 2);
        for (int leaf : Subject.outside(0, 2)) {
            CHECK.due(x, Subject.NONE, "group", leaf);
        }
        CHECK.sentence("25 NONE: a LEAF that came behind the latest cut()");
        x.call("leaves", 4);
        CHECK.due(x, Subject.NONE, "group", 3);
        CHECK.due(x, 0, "finding");
        Subject ten = Subject.withAlike(10, 1);
        ten.call("make", 0, 0);
        ten.call("cut", 0, 0);
        for (int leaf = 0; leaf <= 9; leaf++) {
            CHECK.due(ten, leaf, "group", leaf);
        }
        for (int leaf : Subject.outside(0, 9)) {
            CHECK.due(ten, Subject.NONE, "group", leaf);
        }
    }

    private static void groupOfLatestCut() {
        CHECK.sentence("25 by the latest cut() that was not refused");
        Subject x = Subject.withAlike(10, 1);
        x.call("make", 0, 0);
        x.call("turn", 0, 18);
        x.call("cut", 0, 0);
        CHECK.due(x, 0, "group", 9);
        CHECK.due(x, 9, "group", 8);
        CHECK.due(x, Subject.BAD, "cut", 0, 1000001);
        CHECK.due(x, Subject.BAD, "cut", 4, 1);
        CHECK.due(x, Subject.FINDING, "cut", 1, 1);
        CHECK.due(x, 9, "group", 8);
        x.call("turn", 0, 18);
        x.call("make", 1, 0);
        x.call("same", 0, 1, 1);
        x.call("drop", 0);
        CHECK.due(x, 0, "group", 9);
        CHECK.due(x, 9, "group", 8);
        CHECK.sentence("25 by the latest cut(): of fewer LEAVES");
        Subject y = chains(2);
        y.call("leaves", 10);
        y.call("make", 1, 0);
        y.call("cut", 1, 0);
        CHECK.due(y, 0, "group", 9);
        y.call("cut", 0, 0);
        CHECK.due(y, 0, "group", 1);
        CHECK.due(y, Subject.NONE, "group", 2);
        CHECK.due(y, Subject.NONE, "group", 9);
    }

    private static void sameFirstAndLast() {
        CHECK.sentence("26 at a height: 0 .. 1000000; (all with both)");
        for (int n = 1; n <= 10; n++) {
            Subject x = chains(n);
            mirror(x, 1, n);
            CHECK.due(x, n, "same", 0, 1, 0);
            CHECK.due(x, n, "same", 1, 0, 1000000);
        }
        CHECK.sentence("26 one TREE and itself");
        SOME.found(Subject.NOTHING, "same", 3, 3, 0);
        Subject x = Subject.fresh();
        Furniture.full(x);
        CHECK.due(x, 10, "same", 3, 3, 0);
        CHECK.due(x, 10, "same", 3, 3, 30);
    }

    /** TREE 0 is ((0 1) (2 3)), TREE 1 ((0 2) (1 3)); all pairs were joined at 4, the tops at 9. */
    private static void sameAllAndNone() {
        CHECK.sentence("26 (the same LEAVES): all, none, all");
        Subject x = Subject.withRows(new int[][] {{}, {4}, {9, 9}, {9, 9, 4}});
        x.call("make", 0, 0);
        x.call("lay", 1, 0, 9);
        x.call("lay", 2, 0, 4);
        x.call("lay", 3, 1, 4);
        x.call("lay", 3, 2, 9);
        x.call("make", 1, 0);
        int[][] want = {{3, 4}, {4, 0}, {8, 0}, {9, 4}};
        for (int[] w : want) {
            CHECK.due(x, w[1], "same", 0, 1, w[0]);
            CHECK.due(x, w[1], "same", 1, 0, w[0]);
        }
    }

    private static void sameRefused() {
        CHECK.sentence("26 BAD: a height that is none");
        for (int height : Subject.outside(0, 1000000)) {
            SOME.bad("same", 1, 2, height);
        }
        CHECK.sentence("26 BAD ahead of NOTHING and STATE");
        for (int height : Subject.outside(0, 1000000)) {
            SOME.bad("same", 1, 3, height);
            SOME.bad("same", 0, 1, height);
            NONE_THERE.bad("same", 0, 0, height);
        }
    }
}

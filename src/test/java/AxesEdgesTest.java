/** The boundary cases of promises 27 to 30, a function for each sentence that names one. */
public final class AxesEdgesTest {
    private static final Check CHECK = new Check("AxesEdgesTest");
    private static final Refusals NONE_THERE = new Refusals(CHECK, Furniture::none);
    private static final Refusals SOME = new Refusals(CHECK, Furniture::some);
    private static final Refusals FULL = new Refusals(CHECK, Furniture::full);

    public static void main(String[] args) {
        axesFirstAndLast();
        axesAllNought();
        axesRefused();
        worthFirstAndLast();
        worthBothWays();
        worthRefused();
        layingOfFewAndMany();
        layingLeastAndGreatest();
        layingTheFirst();
        axisNoneSuch();
        axisOfLatestLaying();
        CHECK.finish();
    }

    private static Subject withAxes(int m, int worth) {
        Subject x = Subject.fresh();
        x.call("axes", m);
        for (int a = 0; a < m; a++) {
            for (int b = a + 1; b < m; b++) {
                x.call("worth", a, b, worth);
            }
        }
        return x;
    }

    private static void laying(Subject x, int worth, String want) {
        CHECK.due(x, want.length(), "laying");
        CHECK.due(x, worth, "asked");
        laid(x, want);
    }

    private static void laid(Subject x, String want) {
        StringBuilder got = new StringBuilder();
        for (int i = 0; i <= 8 && x.call("axis", i) >= 0; i++) {
            got.append(x.call("axis", i));
        }
        CHECK.alike("laid", got.toString(), want);
    }

    private static void worth(Subject x, int was, int a, int b, int v) {
        CHECK.due(x, 1, "worth", a, b, v);
        CHECK.due(x, was, "asked");
    }

    private static void axesFirstAndLast() {
        CHECK.sentence("27 There are m AXES (0 .. 8): m");
        Subject x = Subject.fresh();
        for (int m = 0; m <= 8; m++) {
            CHECK.due(x, m, "axes", m);
            CHECK.due(x, m, "count", 3);
        }
        CHECK.sentence("27 There are m AXES: fewer, too");
        for (int m = 8; m >= 0; m--) {
            CHECK.due(x, m, "axes", m);
            CHECK.due(x, m, "count", 3);
        }
    }

    private static void axesAllNought() {
        CHECK.sentence("27 all WORTHS 0");
        for (int m = 2; m <= 8; m += 6) {
            Subject x = withAxes(8, 5);
            x.call("axes", m);
            x.call("laying");
            CHECK.due(x, 0, "asked");
            x.call("axes", 8);
            for (int a = 0; a < 8; a++) {
                for (int b = a + 1; b < 8; b++) {
                    worth(x, 0, a, b, 0);
                }
            }
        }
    }

    private static void axesRefused() {
        CHECK.sentence("27 BAD");
        for (int m : Subject.outside(0, 8)) {
            NONE_THERE.bad("axes", m);
            SOME.bad("axes", m);
            FULL.bad("axes", m);
        }
    }

    private static void worthFirstAndLast() {
        CHECK.sentence("28 WORTH of two AXES (-1000 .. 1000; 0 at first): what it was");
        Subject x = Subject.fresh();
        x.call("axes", 8);
        worth(x, 0, 0, 7, 1000);
        worth(x, 1000, 0, 7, -1000);
        worth(x, -1000, 0, 7, 999);
        worth(x, 999, 0, 7, -999);
        worth(x, -999, 0, 7, 0);
        worth(x, 0, 0, 7, 3);
        for (int a = 0; a < 8; a++) {
            for (int b = a + 1; b < 8; b++) {
                worth(x, a == 0 && b == 7 ? 3 : 0, a, b, 10 * a + b);
            }
        }
        for (int a = 0; a < 8; a++) {
            for (int b = a + 1; b < 8; b++) {
                worth(x, 10 * a + b, a, b, 0);
            }
        }
        Subject two = Subject.fresh();
        two.call("axes", 2);
        worth(two, 0, 1, 0, -1000);
        worth(two, -1000, 0, 1, 1000);
    }

    private static void worthBothWays() {
        CHECK.sentence("Terms WORTH (both ways alike)");
        Subject x = Subject.fresh();
        x.call("axes", 8);
        worth(x, 0, 0, 7, 11);
        worth(x, 11, 7, 0, 12);
        worth(x, 12, 0, 7, 13);
        worth(x, 0, 7, 6, 14);
        worth(x, 14, 6, 7, 15);
    }

    private static void worthRefused() {
        CHECK.sentence("28 BAD");
        for (int out : Subject.outside(0, 2)) {
            SOME.bad("worth", out, 0, 1);
            SOME.bad("worth", 2, out, 1);
            SOME.bad("worth", out, out, 1);
        }
        for (int out : Subject.outside(0, 7)) {
            FULL.bad("worth", out, 0, 1);
            FULL.bad("worth", 7, out, 1);
        }
        for (int v : Subject.outside(-1000, 1000)) {
            SOME.bad("worth", 0, 1, v);
            FULL.bad("worth", 7, 6, v);
        }
        CHECK.sentence("28 BAD: also the same one");
        for (int a = 0; a < 3; a++) {
            SOME.bad("worth", a, a, 0);
            FULL.bad("worth", 7 - a, 7 - a, 1000);
        }
        CHECK.sentence("28 BAD: there are no two AXES");
        NONE_THERE.bad("worth", 0, 1, 0);
        NONE_THERE.bad("worth", 0, 0, 0);
        Subject one = Subject.fresh();
        one.call("axes", 1);
        CHECK.due(one, Subject.BAD, "worth", 0, 0, 1);
        CHECK.due(one, Subject.BAD, "worth", 0, 1, 1);
        CHECK.sentence("28 BAD: AXES that are there no more");
        Subject fewer = withAxes(8, 1);
        fewer.call("axes", 2);
        CHECK.due(fewer, Subject.BAD, "worth", 0, 2, 1);
        CHECK.due(fewer, Subject.BAD, "worth", 7, 1, 1);
        worth(fewer, 0, 0, 1, 1);
    }

    private static void layingOfFewAndMany() {
        CHECK.sentence("29 THE LAYING: its WORTH, told by asked(): how many AXES");
        Subject none = Subject.fresh();
        none.call("leaves", 2);
        none.call("row", 1);
        none.call("lay", 1, 0, 9);
        none.call("unlike", 0, 1);
        laying(none, 0, "");
        none.call("unlike", 0, 1);
        none.call("axes", 1);
        laying(none, 0, "0");
        String all = "01234567";
        for (int m = 0; m <= 8; m++) {
            laying(withAxes(m, 0), 0, all.substring(0, m));
        }
    }

    private static void layingLeastAndGreatest() {
        CHECK.sentence("Terms THE LAYING: with the greatest WORTH, all WORTHS 1000 or -1000");
        String all = "01234567";
        for (int m = 1; m <= 8; m++) {
            laying(withAxes(m, 1000), 1000 * (m - 1), all.substring(0, m));
            laying(withAxes(m, -1000), -1000 * (m - 1), all.substring(0, m));
        }
        CHECK.sentence("Terms THE LAYING: with the greatest WORTH, below 0");
        Subject x = withAxes(8, -1000);
        x.call("worth", 6, 7, -999);
        laying(x, -6999, "01234567");
        x.call("worth", 0, 5, -998);
        laying(x, -6997, "05123467");
    }

    private static void layingTheFirst() {
        CHECK.sentence("Terms of these the first: a laying and its mirror are alike");
        Subject x = withAxes(8, 0);
        x.call("worth", 7, 6, 1000);
        x.call("worth", 6, 0, 1000);
        laying(x, 2000, "06712345");
        CHECK.sentence("Terms of these the first: a later place decides");
        x = withAxes(4, 0);
        x.call("worth", 0, 1, -1);
        x.call("worth", 0, 2, -1);
        laying(x, 0, "0312");
        x.call("worth", 0, 3, -1);
        laying(x, -1, "0123");
    }

    private static void axisNoneSuch() {
        CHECK.sentence("30 NONE: none such");
        Subject x = Subject.fresh();
        for (int i = -1; i <= 8; i++) {
            CHECK.due(x, Subject.NONE, "axis", i);
        }
        x.call("axes", 8);
        CHECK.due(x, Subject.NONE, "axis", 0);
        x.call("laying");
        CHECK.due(x, 0, "axis", 0);
        CHECK.due(x, 7, "axis", 7);
        for (int i : Subject.outside(0, 7)) {
            CHECK.due(x, Subject.NONE, "axis", i);
        }
        x.call("axes", 1);
        x.call("laying");
        CHECK.due(x, 0, "axis", 0);
        CHECK.due(x, Subject.NONE, "axis", 1);
        x.call("axes", 0);
        x.call("laying");
        CHECK.due(x, Subject.NONE, "axis", 0);
        CHECK.due(x, 0, "finding");
    }

    private static void axisOfLatestLaying() {
        CHECK.sentence("30 Place i of the latest laying()");
        Subject x = Subject.fresh();
        x.call("axes", 3);
        x.call("worth", 0, 2, 3);
        laying(x, 3, "021");
        x.call("worth", 0, 2, -3);
        laid(x, "021");
        x.call("axes", 8);
        laid(x, "021");
        x.call("axes", 0);
        laid(x, "021");
        laying(x, 0, "");
    }
}

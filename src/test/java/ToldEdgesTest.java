import java.util.ArrayList;
import java.util.Arrays;
import java.util.List;

/** The boundary cases of promises 31 to 35 and of what is said of all calls, a function for each sentence. */
public final class ToldEdgesTest {
    private static final Check CHECK = new Check("ToldEdgesTest");
    private static final Refusals NONE_THERE = new Refusals(CHECK, Furniture::none);
    private static final Refusals SOME = new Refusals(CHECK, Furniture::some);
    private static final Refusals FULL = new Refusals(CHECK, Furniture::full);

    public static void main(String[] args) {
        askedBefore();
        askedNotByRefused();
        askedByTheSixAlone();
        countNoneAndAll();
        countRefused();
        findingBeforeAny();
        findingNotByOthers();
        findingsEach();
        findingsRefused();
        digestOfNothing();
        digestOfMissingAgain();
        digestOfAll();
        digestLeavesOut();
        lastOfAllCalls();
        CHECK.finish();
    }

    private static void askedBefore() {
        CHECK.sentence("31 0 before");
        Subject x = Subject.fresh();
        CHECK.due(x, 0, "asked");
        x.call("leaves", 2);
        x.call("row", 1);
        x.call("make", 0, 0);
        x.call("axes", 2);
        x.call("cut", 0, 0);
        CHECK.due(x, 0, "asked");
    }

    private static void askedNotByRefused() {
        CHECK.sentence("31 that was not refused");
        Subject x = Subject.fresh();
        Furniture.some(x);
        long was = x.call("asked");
        CHECK.holds("something was told", was > 0);
        int[][] lays = {{-1, 0, 1}, {1, 0, -1}, {7, 0, 1}, {1, 10, 1}};
        for (int[] a : lays) {
            x.call("lay", a);
            CHECK.due("asked() behind " + Subject.text("lay", a), x.call("asked"), was);
        }
        x.call("unlike", 0, 7);
        CHECK.due(x, was, "asked");
        x.call("price", 3);
        CHECK.due(x, was, "asked");
        x.call("best", 3);
        CHECK.due(x, was, "asked");
        x.call("best", 4);
        CHECK.due(x, was, "asked");
        x.call("worth", 0, 0, 1);
        CHECK.due(x, was, "asked");
    }

    private static void askedByTheSixAlone() {
        CHECK.sentence("31 What the latest lay(), unlike(), price(), best(), worth(), laying() told: 0, too");
        Subject x = Subject.withAlike(2, 7);
        x.call("make", 0, 0);
        x.call("axes", 2);
        String[] told = {"lay 1 1 0", "unlike 1 1", "worth 0 1 0", "laying"};
        for (String call : told) {
            x.call("price", 0);
            CHECK.due(x, 7, "asked");
            String[] words = call.split(" ");
            int[] a = Arrays.stream(words).skip(1).mapToInt(Integer::parseInt).toArray();
            x.call(words[0], a);
            CHECK.due(call + ": asked()", x.call("asked"), 0);
        }
        x.call("best", 0);
        CHECK.due(x, 7, "asked");
        CHECK.sentence("31 no other call tells");
        String[] others = {"leaves 3", "row 2", "mean 1", "copy 1 0 2 0 1", "tear 2", "make 1 0", "told 0 2 3",
            "mark 0 2 2", "turn 0 2", "hold 0 2 0", "order 0 1", "face 0 1", "faceBoth 0 1", "crossings 0 0", "keep 0",
            "near 0", "cut 0 0", "group 1", "same 0 0 1", "axis 0", "count 0", "finding", "findings 1", "digest",
            "drop 1", "axes 1"};
        for (String call : others) {
            String[] words = call.split(" ");
            int[] a = Arrays.stream(words).skip(1).mapToInt(Integer::parseInt).toArray();
            x.call(words[0], a);
            CHECK.due(call + ": asked()", x.call("asked"), 7);
        }
    }

    private static void countNoneAndAll() {
        CHECK.sentence("32 as many as there can be");
        Subject x = Subject.fresh();
        Furniture.full(x);
        for (int t = 0; t < 4; t++) {
            for (int join = 10; join <= 18; join++) {
                x.call("hold", t, join, 1);
            }
        }
        int[] most = {10, 10, 4, 8, 36};
        for (int what = 0; what <= 4; what++) {
            CHECK.due(x, most[what], "count", what);
        }
        CHECK.sentence("32 and none of what can go");
        for (int k = 0; k < 10; k++) {
            x.call("tear", k);
        }
        for (int t = 0; t < 4; t++) {
            x.call("drop", t);
        }
        x.call("axes", 0);
        int[] least = {10, 0, 0, 0, 0};
        for (int what = 0; what <= 4; what++) {
            CHECK.due(x, least[what], "count", what);
        }
    }

    private static void countRefused() {
        CHECK.sentence("32 BAD");
        for (int what : Subject.outside(0, 4)) {
            NONE_THERE.bad("count", what);
            SOME.bad("count", what);
            FULL.bad("count", what);
        }
    }

    private static void findingBeforeAny() {
        CHECK.sentence("33 (0 before any)");
        Subject x = Subject.fresh();
        CHECK.due(x, 0, "finding");
        Furniture.full(x);
        CHECK.due(x, 0, "finding");
    }

    private static void findingNotByOthers() {
        CHECK.sentence("33 BAD, STATE and NONE are no FINDINGS");
        Subject x = Subject.fresh();
        Furniture.some(x);
        CHECK.due(x, Subject.BAD, "row", 10);
        CHECK.due(x, Subject.STATE, "turn", 0, 6);
        CHECK.due(x, Subject.STATE, "crossings", 0, 1);
        CHECK.due(x, Subject.STATE, "near", 0);
        CHECK.due(x, Subject.NONE, "order", 0, 4);
        CHECK.due(x, Subject.NONE, "group", 7);
        CHECK.due(x, Subject.NONE, "axis", 3);
        CHECK.due(x, Subject.BAD, "findings", 0);
        CHECK.due(x, 0, "finding");
        CHECK.due(x, Subject.FINDING, "mean", 0);
        CHECK.due(x, Subject.NOUGHT, "finding");
        CHECK.due(x, 1, "tear", 0);
        CHECK.due(x, Subject.BAD, "mean", 10);
        CHECK.due(x, Subject.NOUGHT, "finding");
        CHECK.due(x, Subject.FINDING, "mean", 0);
        CHECK.due(x, Subject.NOTHING, "finding");
        CHECK.alike("findings", Arrays.toString(x.findings()), "[1, 1, 0, 0, 1, 0]");
    }

    private static void findingsEach() {
        CHECK.sentence("34 How often a FINDING (1 .. 5) was answered");
        Subject x = Subject.fresh();
        Furniture.some(x);
        int[] want = new int[6];
        int[] order = {5, 1, 4, 2, 3, 3, 5, 4, 4, 1, 2, 2, 2, 5, 5, 5, 1};
        for (int f : order) {
            switch (f) {
                case Subject.NOTHING -> CHECK.due(x, Subject.FINDING, "tear", 9);
                case Subject.BEYOND -> CHECK.due(x, Subject.FINDING, "lay", 0, 10, 0);
                case Subject.UNLIKE -> CHECK.due(x, Subject.FINDING, "turn", 0, 0);
                case Subject.NOUGHT -> CHECK.due(x, Subject.FINDING, "mean", 0);
                default -> CHECK.due(x, Subject.FINDING, "copy", 0, 0, 0, 0, -1);
            }
            want[0] = f;
            want[f]++;
            CHECK.alike("findings", Arrays.toString(x.findings()), Arrays.toString(want));
        }
    }

    private static void findingsRefused() {
        CHECK.sentence("34 BAD");
        for (int f : Subject.outside(1, 5)) {
            NONE_THERE.bad("findings", f);
            SOME.bad("findings", f);
        }
    }

    /** 31 h + v over and over, with Java's wrap-around. */
    private static long mixed(List<Integer> all) {
        long h = 17;
        for (int v : all) {
            h = 31 * h + v;
        }
        return h;
    }

    private static List<Integer> values(int... all) {
        List<Integer> list = new ArrayList<>();
        for (int v : all) {
            list.add(v);
        }
        return list;
    }

    private static void digestOfNothing() {
        CHECK.sentence("35 (-1 once: missing)");
        List<Integer> all = values(0, 0, -1, -1, -1, -1, -1, -1, -1, -1, -1, -1, -1, -1, -1, -1);
        Subject x = Subject.fresh();
        CHECK.due(x, mixed(all), "digest");
        x.call("tear", 0);
        x.call("drop", 0);
        x.call("laying");
        CHECK.due(x, mixed(all), "digest");
        CHECK.sentence("35 one AXIS has no WORTH");
        x.call("axes", 1);
        all.set(1, 1);
        CHECK.due(x, mixed(all), "digest");
        CHECK.sentence("35 WORTHS of AXES a, b, a below b: two AXES have one");
        x.call("axes", 2);
        x.call("worth", 1, 0, -1000);
        all.set(1, 2);
        all.add(-1000);
        CHECK.due(x, mixed(all), "digest");
        CHECK.sentence("35 of each TREE told() 0 to 5 of all its NODES: one LEAF");
        x.call("leaves", 1);
        x.call("make", 3, 0);
        all.set(0, 1);
        all.set(15, 1);
        all.addAll(16, values(-9, -9, 0, 1, -9));
        CHECK.due(x, mixed(all), "digest");
        CHECK.sentence("35 of each ROW its 10 places");
        x.call("row", 9);
        x.call("lay", 9, 0, 10000);
        x.call("lay", 9, 9, 3);
        all.set(11, 10000);
        all.addAll(12, values(0, 0, 0, 0, 0, 0, 0, 0, 3));
        CHECK.due(x, mixed(all), "digest");
    }

    private static void digestOfMissingAgain() {
        CHECK.sentence("35 (-1 once: missing): what was there and is missing again");
        Subject x = Subject.fresh();
        Furniture.full(x);
        for (int i = 0; i < 10; i++) {
            x.call("tear", i);
        }
        for (int t = 0; t < 4; t++) {
            x.call("drop", t);
        }
        x.call("axes", 0);
        CHECK.due(x, mixed(values(10, 0, -1, -1, -1, -1, -1, -1, -1, -1, -1, -1, -1, -1, -1, -1)), "digest");
    }

    private static void digestOfAll() {
        CHECK.sentence("35 each v: LEAVES, AXES; ROWS; TREES; WORTHS: as many as there can be, with wrap-around");
        Subject x = Subject.fresh();
        Furniture.full(x);
        List<Integer> all = values(10, 8);
        for (int i = 0; i < 10; i++) {
            all.addAll(values(twinOfFull().placesOf(i)));
        }
        for (int t = 0; t < 4; t++) {
            Subject twin = twinOfFull();
            for (int node = 0; node <= 18; node++) {
                for (int what = 0; what <= 5; what++) {
                    all.add((int) twin.call("told", t, node, what));
                }
            }
        }
        Subject twin = twinOfFull();
        for (int a = 0; a < 8; a++) {
            for (int b = a + 1; b < 8; b++) {
                twin.call("worth", a, b, 0);
                all.add((int) twin.call("asked"));
            }
        }
        CHECK.due(x, mixed(all), "digest");
        CHECK.due(x, mixed(all), "digest");
        CHECK.due("how many", all.size(), 2 + 100 + 456 + 28);
    }

    private static Subject twinOfFull() {
        Subject twin = Subject.fresh();
        Furniture.full(twin);
        return twin;
    }

    private static void digestLeavesOut() {
        CHECK.sentence("35 nothing else is in it");
        Subject x = Subject.fresh();
        Furniture.some(x);
        long was = x.call("digest");
        x.call("keep", 1);
        x.call("cut", 0, 0);
        x.call("laying");
        x.call("price", 0);
        x.call("tear", 9);
        x.call("turn", 2, 7);
        CHECK.holds("a TURN is in it", x.call("digest") != was);
        x.call("turn", 2, 7);
        CHECK.due(x, was, "digest");
    }

    private static void lastOfAllCalls() {
        CHECK.sentence("at most 512 calls: the last ones answer, too");
        Subject x = Subject.fresh();
        x.call("leaves", 2);
        x.call("make", 0, 0);
        for (int often = 1; often <= 508; often++) {
            x.call("turn", 0, 2);
        }
        CHECK.due(x, 509, "turn", 0, 2);
        CHECK.due(x, 1, "order", 0, 0);
        Subject refused = Subject.fresh();
        for (int often = 1; often <= 510; often++) {
            refused.call("tear", often % 10);
        }
        CHECK.due(refused, 510, "findings", 1);
        CHECK.due(refused, 1, "finding");
    }
}

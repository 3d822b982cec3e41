import java.util.Arrays;

/** Every call with all mixtures of chosen numbers at and beyond the bounds, in four states, against the model. */
public final class MixturesTest {
    private static final Check CHECK = new Check("MixturesTest");
    private static final Furniture.Into[] STATES = {Furniture::none, Furniture::some, Furniture::someKept, Furniture::full};

    private static final int[] TREES = {Subject.LOW, -1, 0, 1, 2, 3, 4, Subject.HIGH};
    private static final int[] NODES = {Subject.LOW, -1, 0, 3, 4, 6, 7, 8, 9, 10, 12, 13, 18, 19, Subject.HIGH};
    private static final int[] ROWS = {Subject.LOW, -1, 0, 1, 6, 7, 9, 10, Subject.HIGH};
    private static final int[] PLACES = {Subject.LOW, -1, 0, 6, 7, 8, 9, 10, 11, Subject.HIGH};
    private static final int[] FEW = {-1, 0, 1, 2, 3, 4, 5, 6, 7, 8, 9, 10, 11};
    private static final int[] KINDS = {-1, 0, 1, 2, 3, 4, 5, 6};
    private static final int[] HEIGHTS = {-1, 0, 1, 30, 10000, 1000000, 1000001};
    private static final int[] UNLIKENESS = {Subject.LOW, -1, 0, 10000, 10001, Subject.HIGH};
    private static final int[] WORTHS = {Subject.LOW, -1001, -1000, 0, 1000, 1001, Subject.HIGH};
    private static final int[] IS = {0, 1};

    private static final int[] COPIED = {-1, 0, 6, 7, 10};
    private static final int[] COPY_PLACES = {-1, 0, 1, 10, 11, Subject.HIGH};
    private static final int[] COPY_SIZES = {Subject.LOW, -1, 0, 1, 9, 10, 11, Subject.HIGH};

    /** What a picture and all findings take, with some calls to spare. */
    private static final int CALLS_FOR_WHOLE = 150;

    private final Furniture.Into state;
    private Subject x;
    private Subject model;

    private MixturesTest(Furniture.Into state) {
        this.state = state;
        renew();
    }

    public static void main(String[] args) {
        for (String name : new String[] {"leaves", "axes", "count", "findings", "group", "axis"}) {
            mix(name, new int[][] {withFar(FEW)});
        }
        for (String name : new String[] {"row", "tear", "mean"}) {
            mix(name, new int[][] {ROWS});
        }
        for (String name : new String[] {"drop", "price", "best", "keep", "near"}) {
            mix(name, new int[][] {TREES});
        }
        for (String name : new String[] {"crossings", "face", "faceBoth", "fewest"}) {
            mix(name, new int[][] {TREES, TREES});
        }
        for (String name : new String[] {"laying", "asked", "finding", "digest"}) {
            mix(name, new int[][] {});
        }
        mix("lay", new int[][] {ROWS, PLACES, UNLIKENESS});
        mix("copy", new int[][] {COPIED, COPY_PLACES, COPIED, COPY_PLACES, COPY_SIZES});
        mix("unlike", new int[][] {PLACES, PLACES});
        mix("make", new int[][] {TREES, KINDS});
        mix("told", new int[][] {TREES, NODES, KINDS});
        mix("mark", new int[][] {TREES, NODES, KINDS});
        mix("turn", new int[][] {TREES, NODES});
        mix("hold", new int[][] {TREES, NODES, IS});
        mix("order", new int[][] {TREES, PLACES});
        mix("cut", new int[][] {TREES, HEIGHTS});
        mix("same", new int[][] {TREES, TREES, HEIGHTS});
        mix("worth", new int[][] {PLACES, PLACES, WORTHS});
        CHECK.finish();
    }

    private static int[] withFar(int[] few) {
        int[] all = Arrays.copyOf(few, few.length + 2);
        all[few.length] = Subject.LOW;
        all[few.length + 1] = Subject.HIGH;
        return all;
    }

    private static void mix(String name, int[][] values) {
        for (Furniture.Into state : STATES) {
            MixturesTest pair = new MixturesTest(state);
            pair.mixFrom(name, values, new int[values.length], 0);
            pair.whole();
        }
    }

    private void renew() {
        x = Subject.fresh();
        model = Subject.model();
        state.put(x);
        state.put(model);
    }

    private void mixFrom(String name, int[][] values, int[] a, int from) {
        if (from == values.length) {
            compare(name, a);
            return;
        }
        for (int v : values[from]) {
            a[from] = v;
            mixFrom(name, values, a, from + 1);
        }
    }

    /** A refused call leaves all as it was, so the next one can be made on the same pair. */
    private void compare(String name, int[] a) {
        CHECK.sentence(Subject.text(name, a));
        long due = model.call(name, a);
        CHECK.due("it", x.call(name, a), due);
        CHECK.due("finding()", x.call("finding"), model.call("finding"));
        CHECK.due("digest()", x.call("digest"), model.call("digest"));
        if (due >= 0 || x.callsLeft() < CALLS_FOR_WHOLE) {
            whole();
            renew();
        }
    }

    private void whole() {
        CHECK.alike("findings", Arrays.toString(x.findings()), Arrays.toString(model.findings()));
        CHECK.alike("picture", x.picture(), model.picture());
    }
}

import java.util.Random;

/** All promises: runs of at most 512 calls, the same ones every time, against a model that tries out everything. */
public final class AgainstModelTest {
    private static final int RUNS = 800;
    private static final int STEPS = 100;
    private static final Check CHECK = new Check("AgainstModelTest");

    private final Random random;
    private final LeafOrder x = new LeafOrder();
    private final PlainModel model = new PlainModel();
    /** Small values make alike prices, heights and worths common. */
    private final int mostValue;
    private final int mostLeaves;

    private AgainstModelTest(int run) {
        random = new Random(run);
        mostValue = new int[] {1, 3, 12, 10000}[run % 4];
        mostLeaves = new int[] {10, 6, 8, 4, 10}[run % 5];
    }

    public static void main(String[] args) {
        for (int run = 0; run < RUNS; run++) {
            new AgainstModelTest(run).run(run);
        }
        CHECK.finish();
    }

    private void run(int run) {
        for (int step = 0; step < STEPS; step++) {
            String where = "run " + run + ", step " + step + ": ";
            if (step == 0) {
                grow(2 + random.nextInt(3));
            } else if (step == STEPS / 3) {
                grow(mostLeaves);
            }
            step(where, random.nextInt(50));
            CHECK.due(where + "digest()", x.digest(), model.digest());
            if (step % 2 == 0) {
                CHECK.due(where + "asked()", x.asked(), model.asked());
            } else if (step % 4 == 1) {
                CHECK.due(where + "finding()", x.finding(), model.finding());
            }
        }
        whole("run " + run + ": ");
    }

    /** Lets a run have rows and trees to work with; the leaves come in two lots, so that trees differ in size. */
    private void grow(int count) {
        int n = Math.max(model.count(0), count);
        x.leaves(n);
        model.leaves(n);
        for (int j = 1; j < n; j++) {
            x.row(j);
            model.row(j);
            for (int i = 0; i < j; i++) {
                int v = random.nextInt(mostValue + 1);
                x.lay(j, i, v);
                model.lay(j, i, v);
            }
        }
        for (int t = 0; t < 2; t++) {
            int way = random.nextInt(3);
            x.make(t, way);
            model.make(t, way);
        }
    }

    /** Mostly low .. high, now and then just outside or far away. */
    private int pick(int low, int high) {
        int way = random.nextInt(60);
        if (way == 0) {
            return low - 1;
        }
        if (way == 1) {
            return high + 1;
        }
        if (way == 2) {
            return random.nextBoolean() ? Integer.MIN_VALUE : Integer.MAX_VALUE;
        }
        return low + random.nextInt(high - low + 1);
    }

    private int tree() {
        return random.nextInt(8) == 0 ? pick(0, 3) : random.nextInt(3);
    }

    private int node() {
        return pick(0, 2 * mostLeaves - 2);
    }

    private void step(String where, int which) {
        switch (which) {
            case 0, 1, 2, 3, 4, 5, 6, 7, 8, 9, 10, 11, 12, 13 -> rowsStep(where, which);
            case 14, 15, 16, 17, 18, 19, 20, 21, 22, 23, 24, 25 -> treesStep(where, which);
            case 26, 27, 28, 29, 30, 31, 32, 33, 34, 35, 36, 37, 38, 39 -> turnsStep(where, which);
            default -> axesStep(where, which);
        }
    }

    private void rowsStep(String where, int which) {
        int i = pick(0, 9);
        int j = pick(0, 9);
        int v = random.nextInt(20) == 0 ? pick(0, 10000) : random.nextInt(mostValue + 1);
        int at = pick(0, 10);
        int count = random.nextInt(5) == 0 ? pick(0, 10) : random.nextInt(4);
        switch (which) {
            case 0 -> {
                int n = random.nextBoolean() ? pick(0, 10) : model.count(0) + random.nextInt(2);
                n = n > mostLeaves && n < 11 ? mostLeaves : n;
                CHECK.due(where + "leaves " + n, x.leaves(n), model.leaves(n));
            }
            case 1, 2 -> CHECK.due(where + "row " + i, x.row(i), model.row(i));
            case 3 -> CHECK.due(where + "tear " + i, x.tear(i), model.tear(i));
            case 4, 5 -> CHECK.due(where + "copy", x.copy(i, j, pickRow(i), at, count),
                model.copy(i, j, rowPicked, at, count));
            case 6, 7 -> CHECK.due(where + "unlike", x.unlike(i, j), model.unlike(i, j));
            case 8 -> CHECK.due(where + "mean " + i, x.mean(i), model.mean(i));
            default -> CHECK.due(where + "lay", x.lay(i, j, v), model.lay(i, j, v));
        }
    }

    private int rowPicked;

    private int pickRow(int i) {
        rowPicked = random.nextBoolean() ? i : pick(0, 9);
        return rowPicked;
    }

    private void treesStep(String where, int which) {
        int t = tree();
        int node = node();
        int what = pick(0, 5);
        boolean is = random.nextInt(3) != 0;
        switch (which) {
            case 14 -> CHECK.due(where + "make", x.make(t, pickWay()), model.make(t, wayPicked));
            case 17 -> {
                int dropped = random.nextInt(3) == 0 ? t : pick(2, 3);
                CHECK.due(where + "drop", x.drop(dropped), model.drop(dropped));
            }
            case 18 -> CHECK.due(where + "told", x.told(t, node, what), model.told(t, node, what));
            case 19, 20 -> CHECK.due(where + "mark", x.mark(t, node, what), model.mark(t, node, what));
            case 21, 22 -> CHECK.due(where + "turn", x.turn(t, node), model.turn(t, node));
            case 15, 16, 23 -> CHECK.due(where + "hold", x.hold(t, node, is), model.hold(t, node, is));
            case 24 -> CHECK.due(where + "order", x.order(t, node), model.order(t, node));
            default -> CHECK.due(where + "price", x.price(t), model.price(t));
        }
    }

    private int wayPicked;

    private int pickWay() {
        wayPicked = pick(0, 2);
        return wayPicked;
    }

    private void turnsStep(String where, int which) {
        int t = tree();
        int u = tree();
        int height = random.nextInt(20) == 0 ? pick(0, 1000000) : random.nextInt(mostValue + 2);
        switch (which) {
            case 26, 27, 28 -> CHECK.due(where + "best", x.best(t), model.best(t));
            case 29 -> CHECK.due(where + "crossings", x.crossings(t, u), model.crossings(t, u));
            case 30 -> CHECK.due(where + "face", x.face(t, u), model.face(t, u));
            case 31 -> CHECK.due(where + "faceBoth", x.faceBoth(t, u), model.faceBoth(t, u));
            case 32, 33 -> CHECK.due(where + "fewest", x.fewest(t, u), model.fewest(t, u));
            case 34 -> CHECK.due(where + "keep", x.keep(t), model.keep(t));
            case 35 -> CHECK.due(where + "near", x.near(t), model.near(t));
            case 36, 37 -> CHECK.due(where + "cut", x.cut(t, height), model.cut(t, height));
            case 38 -> CHECK.due(where + "group", x.group(u), model.group(u));
            default -> CHECK.due(where + "same", x.same(t, u, height), model.same(t, u, height));
        }
    }

    private void axesStep(String where, int which) {
        int a = pick(0, 6);
        int b = pick(0, 6);
        int v = random.nextInt(9) == 0 ? pick(-1000, 1000) : random.nextInt(2 * mostValue + 1) - mostValue;
        switch (which) {
            case 40 -> {
                int m = random.nextInt(4) == 0 ? pick(0, 8) : 6;
                CHECK.due(where + "axes " + m, x.axes(m), model.axes(m));
            }
            case 41 -> CHECK.due(where + "laying", x.laying(), model.laying());
            case 42 -> CHECK.due(where + "axis", x.axis(a), model.axis(a));
            case 43 -> CHECK.due(where + "count", x.count(b), model.count(b));
            case 44 -> CHECK.due(where + "findings", x.findings(b), model.findings(b));
            default -> CHECK.due(where + "worth", x.worth(a, b, v), model.worth(a, b, v));
        }
    }

    /** What the digest does not hold. */
    private void whole(String where) {
        for (int k = 0; k <= 10; k++) {
            CHECK.due(where + "group", x.group(k), model.group(k));
            CHECK.due(where + "axis", x.axis(k), model.axis(k));
            for (int t = 0; t < 3; t++) {
                CHECK.due(where + "order", x.order(t, k), model.order(t, k));
            }
        }
        for (int k = 1; k <= 5; k++) {
            CHECK.due(where + "count", x.count(k - 1), model.count(k - 1));
            CHECK.due(where + "findings", x.findings(k), model.findings(k));
        }
        for (int t = 0; t < 3; t++) {
            for (int join = model.count(0); join < 2 * model.count(0) - 1; join++) {
                CHECK.due(where + "turned", x.mark(t, join, 2), model.mark(t, join, 2));
            }
        }
    }
}

/** What refused calls are made on: objects with nothing, with some of each, with as many as there can be. */
final class Furniture {
    /** Whatever prepares a new object. */
    interface Into {
        void put(Subject x);
    }

    private Furniture() {
    }

    static void none(Subject x) {
    }

    /**
     * LEAVES 0 .. 6; ROWS 0 .. 6; TREE 0 of 4 LEAVES, TREES 1 and 2 of 7, TREE 3 missing; JOINS 6 of TREE 0, 8 and 12
     * of TREE 1 HELD; 3 AXES; cut() and laying() made, no ORDER told.
     */
    static void some(Subject x) {
        x.call("row", 0);
        x.call("lay", 0, 0, 5);
        lay(x, 1, 4);
        x.call("make", 0, 0);
        lay(x, 4, 7);
        x.call("make", 1, 0);
        x.call("make", 2, 1);
        x.call("turn", 0, 4);
        x.call("hold", 0, 6, 1);
        x.call("turn", 1, 7);
        x.call("hold", 1, 8, 1);
        x.call("hold", 1, 12, 1);
        x.call("axes", 3);
        x.call("worth", 0, 1, 5);
        x.call("worth", 1, 2, -3);
        x.call("laying");
        x.call("worth", 0, 2, 9);
        x.call("cut", 1, 20);
        x.call("unlike", 1, 2);
    }

    /** The same with an ORDER that is told: that of TREE 2 ahead of a turn of its top. */
    static void someKept(Subject x) {
        some(x);
        x.call("keep", 2);
        x.call("turn", 2, 12);
    }

    /** 10 LEAVES, 10 ROWS, 4 TREES of 10 LEAVES, 8 AXES, all JOINS of TREE 3 HELD, an ORDER told. */
    static void full(Subject x) {
        x.call("row", 0);
        lay(x, 1, 10);
        for (int t = 0; t < 4; t++) {
            x.call("make", t, t % 3);
        }
        for (int join = 10; join < 19; join++) {
            x.call("hold", 3, join, 1);
        }
        // Laid ahead of the eighth axis, since the model tries out all layings.
        x.call("axes", 3);
        x.call("worth", 0, 2, 6);
        x.call("laying");
        x.call("axes", 8);
        for (int a = 0; a < 8; a++) {
            x.call("worth", a, (a + 3) % 8, 70 * a % 11 - 4);
        }
        x.call("keep", 1);
        x.call("turn", 1, 18);
        x.call("cut", 2, 30);
        x.call("unlike", 8, 9);
    }

    /** LEAVES 0 .. end - 1, and the ROWS of those from one on, with numbers that differ. */
    private static void lay(Subject x, int from, int end) {
        x.call("leaves", end);
        for (int j = from; j < end; j++) {
            x.call("row", j);
            for (int i = 0; i < j; i++) {
                x.call("lay", j, i, 1 + (i * 37 + j * 59 + i * j * 11) % 97);
            }
        }
    }
}

/** Objects that several tests begin with. */
final class Samples {
    private Samples() {
    }

    /** As many leaves as the table has rows; table[j][i], i below j, is the unlikeness of leaves i and j. */
    static LeafOrder withRows(int[][] table) {
        LeafOrder x = new LeafOrder();
        x.leaves(table.length);
        for (int j = 1; j < table.length; j++) {
            x.row(j);
            for (int i = 0; i < table[j].length; i++) {
                x.lay(j, i, table[j][i]);
            }
        }
        return x;
    }

    /** Leaves at points of a line, as unlike as they are far from each other. */
    static LeafOrder onLine(int... points) {
        int[][] table = new int[points.length][];
        for (int j = 0; j < points.length; j++) {
            table[j] = new int[j];
            for (int i = 0; i < j; i++) {
                table[j][i] = Math.abs(points[j] - points[i]);
            }
        }
        return withRows(table);
    }

    static String orderOf(LeafOrder x, int t) {
        StringBuilder text = new StringBuilder();
        for (int i = 0; x.order(t, i) >= 0; i++) {
            text.append(x.order(t, i));
        }
        return text.toString();
    }

    /** Turns joins, from the top down, so that a tree's order is the told one. */
    static void turnTo(LeafOrder x, int t, String order) {
        int n = order.length();
        for (int join = 2 * n - 2; join >= n; join--) {
            int first = firstPlace(x, t, x.told(t, join, 1), order);
            int other = firstPlace(x, t, x.told(t, join, 2), order);
            if (other < first) {
                x.turn(t, join);
            }
        }
    }

    private static int firstPlace(LeafOrder x, int t, int node, String order) {
        int leaf = node;
        while (x.told(t, leaf, 1) != LeafOrder.NONE) {
            leaf = x.told(t, leaf, 1);
        }
        return order.indexOf((char) ('0' + leaf));
    }
}

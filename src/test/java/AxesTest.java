/** Promises 27 to 30. */
public final class AxesTest {
    private static final Check CHECK = new Check("AxesTest");

    public static void main(String[] args) {
        axes();
        worth();
        laying();
        axis();
        CHECK.finish();
    }

    private static void axes() {
        LeafOrder x = new LeafOrder();
        CHECK.due("27: axes(-1)", x.axes(-1), LeafOrder.BAD);
        CHECK.due("27: axes(9)", x.axes(9), LeafOrder.BAD);
        CHECK.due("27: axes(8)", x.axes(8), 8);
        CHECK.due("27: count(3)", x.count(3), 8);
        x.worth(0, 1, 5);
        x.worth(6, 7, 5);
        CHECK.due("27: refused", x.axes(9), LeafOrder.BAD);
        CHECK.due("27: and nothing changed", x.count(3), 8);
        CHECK.due("27: fewer", x.axes(2), 2);
        x.laying();
        CHECK.due("27: all worths 0", x.asked(), 0);
        x.axes(8);
        x.worth(7, 6, 0);
        CHECK.due("27: also of those that come again", x.asked(), 0);
        x.worth(0, 1, 5);
        x.axes(8);
        x.worth(0, 1, 0);
        CHECK.due("27: as many, all worths 0", x.asked(), 0);
        CHECK.due("27: axes(0)", x.axes(0), 0);
    }

    private static void worth() {
        LeafOrder x = new LeafOrder();
        CHECK.due("28: no axes", x.worth(0, 1, 0), LeafOrder.BAD);
        x.axes(3);
        CHECK.due("28: worth", x.worth(0, 2, 1000), 1);
        CHECK.due("28: it was 0", x.asked(), 0);
        CHECK.due("28: both ways alike", x.worth(2, 0, -1000), 1);
        CHECK.due("28: it was 1000", x.asked(), 1000);
        x.worth(0, 2, 1);
        CHECK.due("28: it was -1000", x.asked(), -1000);
        CHECK.due("28: the same one", x.worth(1, 1, 0), LeafOrder.BAD);
        CHECK.due("28: axis 3", x.worth(0, 3, 0), LeafOrder.BAD);
        CHECK.due("28: axis -1", x.worth(-1, 0, 0), LeafOrder.BAD);
        CHECK.due("28: 1001", x.worth(0, 1, 1001), LeafOrder.BAD);
        CHECK.due("28: -1001", x.worth(0, 1, -1001), LeafOrder.BAD);
        CHECK.due("28: refused tells nothing", x.asked(), -1000);
        x.worth(0, 1, 0);
        CHECK.due("28: another pair", x.asked(), 0);
    }

    private static String laid(LeafOrder x) {
        StringBuilder text = new StringBuilder();
        for (int i = 0; x.axis(i) >= 0; i++) {
            text.append(x.axis(i));
        }
        return text.toString();
    }

    private static void layingDue(LeafOrder x, int axes, int worth, String want) {
        CHECK.due("29: laying()", x.laying(), axes);
        CHECK.due("29: its worth", x.asked(), worth);
        CHECK.holds("29: " + want + ", got " + laid(x), laid(x).equals(want));
    }

    private static void laying() {
        LeafOrder x = new LeafOrder();
        layingDue(x, 0, 0, "");
        x.axes(1);
        layingDue(x, 1, 0, "0");
        x.axes(8);
        layingDue(x, 8, 0, "01234567");
        x.worth(0, 1, -1);
        layingDue(x, 8, 0, "02134567");
        x.worth(7, 0, 9);
        layingDue(x, 8, 9, "07123456");
        x.worth(0, 6, 9);
        layingDue(x, 8, 18, "12345607");
        x.axes(2);
        x.worth(0, 1, -7);
        layingDue(x, 2, -7, "01");
        x.axes(4);
        x.worth(0, 3, -5);
        x.worth(0, 2, -5);
        x.worth(0, 1, -5);
        x.worth(1, 2, 4);
        layingDue(x, 4, -1, "0123");
    }

    private static void axis() {
        LeafOrder x = new LeafOrder();
        CHECK.due("30: none yet", x.axis(0), LeafOrder.NONE);
        x.axes(3);
        CHECK.due("30: still none", x.axis(0), LeafOrder.NONE);
        x.worth(0, 2, 3);
        x.laying();
        CHECK.holds("30: 021, got " + laid(x), laid(x).equals("021"));
        CHECK.due("30: axis(-1)", x.axis(-1), LeafOrder.NONE);
        CHECK.due("30: axis(3)", x.axis(3), LeafOrder.NONE);
        CHECK.due("30: axis(high)", x.axis(Integer.MAX_VALUE), LeafOrder.NONE);
        x.worth(0, 2, -3);
        x.axes(1);
        CHECK.holds("30: the latest laying() stays", laid(x).equals("021"));
        x.laying();
        CHECK.holds("30: 0", laid(x).equals("0"));
    }
}

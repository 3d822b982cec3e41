import java.util.Arrays;

/** Refused calls on objects of one kind of furniture: what each answers, and that nothing else changes. */
final class Refusals {
    private final Check check;
    private final Furniture.Into furniture;

    Refusals(Check check, Furniture.Into furniture) {
        this.check = check;
        this.furniture = furniture;
    }

    void bad(String name, int... a) {
        refused(Subject.BAD, 0, name, a);
    }

    void state(String name, int... a) {
        refused(Subject.STATE, 0, name, a);
    }

    void found(int which, String name, int... a) {
        refused(Subject.FINDING, which, name, a);
    }

    /** A twin that is spared the refused call has to tell the same, then and after some calls more. */
    private void refused(int answer, int which, String name, int... a) {
        Subject x = Subject.fresh();
        Subject twin = Subject.fresh();
        furniture.put(x);
        furniture.put(twin);
        check.due(x, answer, name, a);
        String call = Subject.text(name, a);
        int[] want = twin.findings();
        if (which != 0) {
            want[0] = which;
            want[which]++;
        }
        int[] got = x.findings();
        check.holds(call + ": findings " + Arrays.toString(want) + ", got " + Arrays.toString(got),
            Arrays.equals(want, got));
        same(call, x, twin);
        goOn(x);
        goOn(twin);
        same(call + " and more", x, twin);
    }

    private void same(String call, Subject x, Subject twin) {
        String want = twin.picture();
        String got = x.picture();
        check.holds(call + " changes nothing: " + want + ", got " + got, want.equals(got));
    }

    /** Brings to light what is told by no call of its own, the ORDER to be kept and the WORTHS. */
    private static void goOn(Subject x) {
        x.call("near", 2);
        x.call("near", 0);
        x.call("laying");
        x.call("make", 3, 2);
        x.call("cut", 3, 25);
    }
}

/** Counts and prints what is not as due; a test's main ends with finish(). */
final class Check {
    private final String test;
    private int told = 0;
    private int wrong = 0;

    Check(String test) {
        this.test = test;
    }

    void due(String call, long got, long want) {
        told++;
        if (got != want) {
            wrong++;
            System.out.println(test + ": " + call + " answered " + got + ", due is " + want);
        }
    }

    void holds(String what, boolean is) {
        told++;
        if (!is) {
            wrong++;
            System.out.println(test + ": not so: " + what);
        }
    }

    /** A refusal by a finding: the answer, which one it is, and that it was counted once. */
    void finding(String call, LeafOrder x, int before, int got, int which) {
        due(call, got, LeafOrder.FINDING);
        due(call + ": finding()", x.finding(), which);
        due(call + ": findings(" + which + ")", x.findings(which), before + 1);
    }

    void finish() {
        System.out.println(test + ": " + told + " checks, " + wrong + " wrong");
        if (wrong != 0) {
            System.exit(1);
        }
    }
}

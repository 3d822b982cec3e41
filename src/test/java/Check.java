/** Counts and prints what is not as due; a test's main ends with finish(). */
final class Check {
    private final String test;
    private String sentence = "";
    private int told = 0;
    private int wrong = 0;

    Check(String test) {
        this.test = test;
    }

    /** What is checked from here on stands in the document with these words. */
    void sentence(String promiseAndWords) {
        sentence = promiseAndWords + ": ";
    }

    void due(String call, long got, long want) {
        told++;
        if (got != want) {
            wrong++;
            System.out.println(test + ": " + sentence + call + " answered " + got + ", due is " + want);
        }
    }

    /** Makes the call; what is due stands ahead of it, so that rows of calls read as a table. */
    void due(Subject x, long want, String name, int... a) {
        due(Subject.text(name, a), x.call(name, a), want);
    }

    void holds(String what, boolean is) {
        told++;
        if (!is) {
            wrong++;
            System.out.println(test + ": " + sentence + "not so: " + what);
        }
    }

    void alike(String what, String got, String want) {
        holds(what + " " + want + ", got " + got, got.equals(want));
    }

    /** A refusal by a finding: the answer, which one it is, and that it was counted once. */
    void finding(String call, LeafOrder x, int before, int got, int which) {
        due(call, got, LeafOrder.FINDING);
        due(call + ": finding()", x.finding(), which);
        due(call + ": findings(" + which + ")", x.findings(which), before + 1);
    }

    void finish() {
        System.out.println(test + ": " + told + " checks, " + wrong + " wrong");
        if (wrong != 0) {
            System.exit(1);
        }
    }
}

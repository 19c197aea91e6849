/** Counts the answers that are not as due, and ends a test with exit code 1 if there were any. */
final class Due {
    private int wrong;

    void is(String call, long got, long want) {
        if (got != want) {
            wrong++;
            System.out.println(call + " answered " + got + ", due is " + want);
        }
    }

    /** The trace of the latest walk, whole, with its length and what stands around it. */
    void trace(GateHalls x, String after, int... want) {
        is(after + ": trace(-1)", x.trace(-1), want.length);
        for (int k = 0; k < want.length; k++) {
            is(after + ": trace(" + k + ")", x.trace(k), want[k]);
        }
        is(after + ": trace(" + want.length + ")", x.trace(want.length), -1);
    }

    void end() {
        System.out.println(wrong == 0 ? "all answers are as due" : wrong + " answers are not as due");
        if (wrong != 0) {
            System.exit(1);
        }
    }
}

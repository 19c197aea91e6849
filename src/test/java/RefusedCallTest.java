import java.util.function.ToIntFunction;

/**
 * "BAD -1: a number is not as told: nothing changes." Each call with a wrong number is made on an
 * object that has seen much, and all that the object tells is then held against a twin without that call.
 */
public final class RefusedCallTest {
    private static final int LOW = Integer.MIN_VALUE;
    private static final int HIGH = Integer.MAX_VALUE;
    private static final int[] NO_PLACES = {-1, 10, LOW, HIGH};

    private static final Due due = new Due();

    public static void main(String[] args) {
        hallRefuses();
        shareRefuses();
        parentRefuses();
        fillRefuses();
        walkRefuses();
        toldRefuses();
        giftsOfNoPlace();
        traceRefuses();
        countRefuses();
        due.end();
    }

    /** Every number that can be told is other than in a new object; the latest walk ended by failure 23. */
    private static GateHalls busy() {
        GateHalls x = new GateHalls();
        x.hall(0, 0, 10);
        x.hall(1, 1, 5);
        x.hall(2, 2, 4);
        x.hall(9, 0, 0);
        x.share(9, 3);
        x.parent(2, 1);
        x.parent(1, 0);
        x.parent(4, 4);
        x.fill(500);
        x.walk(9, 1, -7);
        x.walk(0, 1, 30);
        x.seek(3);
        x.walk(2, 6, 3);
        return x;
    }

    private static void refused(String call, int answer, ToIntFunction<GateHalls> made) {
        GateHalls x = busy();
        GateHalls twin = busy();
        due.is(call, made.applyAsInt(x), answer);
        due.same("behind " + call, x, twin);
        due.is("behind " + call + ": seek(23)", x.seek(23), twin.seek(23));
        due.is("behind " + call + ": walk(2, 0, 0)", x.walk(2, 0, 0), twin.walk(2, 0, 0));
        due.is("behind " + call + ": hall(5, 0, 0)", x.hall(5, 0, 0), twin.hall(5, 0, 0));
        due.same("in the end behind " + call, x, twin);
    }

    private static void hallRefuses() {
        due.sentence("hall: BAD: PLACE");
        for (int w : NO_PLACES) {
            refused("hall(" + w + ", 0, 0)", -1, x -> x.hall(w, 0, 0));
        }
        due.sentence("hall: BAD: KIND");
        for (int w : new int[] {-1, 3, LOW, HIGH}) {
            refused("hall(1, " + w + ", 0)", -1, x -> x.hall(1, w, 0));
        }
        due.sentence("hall: BAD: a FEE that is not 0 .. 1000");
        for (int w : new int[] {-1, 1001, LOW, HIGH}) {
            for (int kind = 0; kind <= 2; kind++) {
                int k = kind;
                refused("hall(1, " + k + ", " + w + ")", -1, x -> x.hall(1, k, w));
            }
        }
    }

    private static void shareRefuses() {
        due.sentence("share: BAD");
        for (int w : NO_PLACES) {
            refused("share(" + w + ", 1)", -1, x -> x.share(w, 1));
            refused("share(1, " + w + ")", -1, x -> x.share(1, w));
            refused("share(5, " + w + ")", -1, x -> x.share(5, w));
            refused("share(" + w + ", " + w + ")", -1, x -> x.share(w, w));
        }
    }

    private static void parentRefuses() {
        due.sentence("parent: -2: a number is not as told");
        for (int w : NO_PLACES) {
            refused("parent(" + w + ", 0)", -2, x -> x.parent(w, 0));
            refused("parent(" + w + ", -1)", -2, x -> x.parent(w, -1));
            refused("parent(" + w + ", " + w + ")", -2, x -> x.parent(w, w));
        }
        for (int w : new int[] {-2, 10, LOW, HIGH}) {
            refused("parent(1, " + w + ")", -2, x -> x.parent(1, w));
            refused("parent(5, " + w + ")", -2, x -> x.parent(5, w));
        }
    }

    private static void fillRefuses() {
        due.sentence("fill: n (0 .. 1000). BAD");
        for (int w : new int[] {-1, 1001, LOW, HIGH, -1000}) {
            refused("fill(" + w + ")", -1, x -> x.fill(w));
        }
    }

    private static void walkRefuses() {
        due.sentence("walk: BAD: PLACE");
        for (int w : NO_PLACES) {
            for (int deed = 0; deed <= 7; deed++) {
                int d = deed;
                refused("walk(" + w + ", " + d + ", 1)", -1, x -> x.walk(w, d, 1));
            }
        }
        due.sentence("walk: BAD: DEED not 0 .. 7");
        for (int w : new int[] {-1, 8, LOW, HIGH}) {
            refused("walk(0, " + w + ", 1)", -1, x -> x.walk(0, w, 1));
            refused("walk(4, " + w + ", 1) where the path comes back", -1, x -> x.walk(4, w, 1));
            refused("walk(5, " + w + ", 1) without a hall", -1, x -> x.walk(5, w, 1));
            refused("walk(-1, " + w + ", 1)", -1, x -> x.walk(-1, w, 1));
        }
    }

    private static void toldRefuses() {
        due.sentence("told: BAD");
        for (int w : NO_PLACES) {
            for (int what = 0; what <= 7; what++) {
                int asked = what;
                refused("told(" + w + ", " + asked + ")", -1, x -> x.told(w, asked));
            }
        }
        for (int w : new int[] {-1, 8, LOW, HIGH}) {
            refused("told(1, " + w + ")", -1, x -> x.told(1, w));
        }
        due.sentence("told: BAD: also without one");
        for (int what = -1; what <= 8; what++) {
            int asked = what;
            refused("told(5, " + asked + ")", -1, x -> x.told(5, asked));
        }
    }

    private static void giftsOfNoPlace() {
        // The promise names no BAD, and -1 could be gifts: a number that is no place has no hall.
        due.sentence("gifts: 0 without one");
        for (int w : NO_PLACES) {
            refused("gifts(" + w + ")", 0, x -> x.gifts(w));
        }
        refused("gifts(5)", 0, x -> x.gifts(5));
    }

    private static void traceRefuses() {
        due.sentence("trace: BAD");
        for (int w : new int[] {-2, 6, 7, 99, 100, LOW, HIGH}) {
            refused("trace(" + w + ")", -1, x -> x.trace(w));
        }
    }

    private static void countRefuses() {
        due.sentence("count: BAD");
        for (int w : new int[] {-1, 6, LOW, HIGH}) {
            refused("count(" + w + ")", -1, x -> x.count(w));
        }
    }
}

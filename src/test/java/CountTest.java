/** Promise 11: count. */
public final class CountTest {
    private static void counts(Due due, GateHalls x, String after, int... want) {
        for (int what = 0; what < want.length; what++) {
            due.is(after + ": count(" + what + ")", x.count(what), want[what]);
        }
    }

    public static void main(String[] args) {
        Due due = new Due();
        GateHalls x = new GateHalls();
        counts(due, x, "new", 0, 0, 0, 0, 0, 0);
        x.hall(0, 0, 1);
        x.hall(0, 0, 1);
        x.share(0, 9);
        x.fill(20);
        counts(due, x, "hall, share, fill", 20, 2, 2, 0, 0, 0);
        x.parent(9, 0);
        x.walk(9, 5, 9);
        counts(due, x, "walk(9, 5, 9)", 16, 2, 2, 0, 2, 4);
        x.walk(0, 3, 0);
        counts(due, x, "walk(0, 3, 0)", 15, 2, 2, 6, 3, 1);
        x.walk(0, 5, 1000);
        counts(due, x, "walk(0, 5, 1000)", 12, 2, 2, 2, 6, 3);
        x.walk(5, 0, 0);
        counts(due, x, "walk(5, 0, 0)", 12, 2, 2, 1, 7, 0);
        x.walk(0, 4, 9);
        counts(due, x, "walk(0, 4, 9)", 11, 2, 1, 0, 8, 1);
        x.walk(10, 0, 0);
        x.seek(0);
        counts(due, x, "a wrong walk and a seek", 11, 2, 1, 0, 8, 1);
        int[] wrong = {-1, 6, 7, Integer.MIN_VALUE, Integer.MAX_VALUE};
        for (int w : wrong) {
            due.is("count(" + w + ")", x.count(w), -1);
        }
        due.end();
    }
}

/** Promise 8: told. */
public final class ToldTest {
    public static void main(String[] args) {
        Due due = new Due();
        GateHalls x = new GateHalls();
        x.hall(0, 0, 0);
        x.hall(9, 1, 7);
        x.share(9, 3);
        x.parent(9, 3);
        x.fill(1000);
        x.walk(9, 0, 0);
        x.walk(3, 0, 0);
        x.seek(-5);
        // Passes 1 and 2 within one walk, 3 in the next; asked as 3 behind 0, as 9 behind 0 and 3, and for itself.
        int[] want = {1, 1, 7, 3, 5, 8 + 9 + 10, 0, 2};
        for (int what = 0; what < want.length; what++) {
            due.is("told(9, " + what + ")", x.told(9, what), want[what]);
            due.is("told(3, " + what + ")", x.told(3, what), want[what]);
            due.is("told(5, " + what + ")", x.told(5, what), -1);
        }
        int[] wrong = {-1, 10, Integer.MIN_VALUE, Integer.MAX_VALUE};
        for (int w : wrong) {
            due.is("told(" + w + ", 0)", x.told(w, 0), -1);
            due.is("told(" + w + ", 8)", x.told(w, 8), -1);
        }
        wrong[1] = 8;
        for (int w : wrong) {
            due.is("told(9, " + w + ")", x.told(9, w), -1);
        }
        due.end();
    }
}

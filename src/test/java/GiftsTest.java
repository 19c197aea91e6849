/** Promise 9: gifts. */
public final class GiftsTest {
    public static void main(String[] args) {
        Due due = new Due();
        GateHalls x = new GateHalls();
        x.hall(0, 0, 0);
        x.hall(9, 0, 0);
        due.is("gifts(0)", x.gifts(0), 0);
        x.walk(0, 1, -1);
        x.walk(9, 1, Integer.MIN_VALUE);
        due.is("gifts(0)", x.gifts(0), -1);
        due.is("gifts(9)", x.gifts(9), Integer.MIN_VALUE);
        due.is("gifts(5)", x.gifts(5), 0);
        x.walk(0, 4, 9);
        due.is("gifts(9)", x.gifts(9), 0);
        // Promise 9 names no BAD: where there is no place, there is no hall.
        int[] wrong = {-1, 10, Integer.MIN_VALUE, Integer.MAX_VALUE};
        for (int w : wrong) {
            due.is("gifts(" + w + ")", x.gifts(w), 0);
        }
        due.end();
    }
}

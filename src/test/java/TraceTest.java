/** Promise 10: trace. */
public final class TraceTest {
    public static void main(String[] args) {
        Due due = new Due();
        onlyTheLatestWalk(due);
        numbersFromHundredOn(due);
        due.end();
    }

    private static void onlyTheLatestWalk(Due due) {
        GateHalls x = new GateHalls();
        due.trace(x, "new");
        x.hall(0, 0, 0);
        x.hall(1, 0, 0);
        x.parent(1, 0);
        x.walk(1, 0, 0);
        due.trace(x, "walk(1, 0, 0)", 0, 1, 101, 100);
        x.walk(0, 0, 0);
        due.trace(x, "walk(0, 0, 0)", 0, 100);
        int[] wrong = {-2, 2, 3, 99, 100, 101, Integer.MIN_VALUE, Integer.MAX_VALUE};
        for (int w : wrong) {
            due.is("trace(" + w + ")", x.trace(w), -1);
        }
        x.walk(5, 0, 0);
        due.trace(x, "walk(5, 0, 0)");
    }

    private static void numbersFromHundredOn(Due due) {
        GateHalls x = new GateHalls();
        for (int number = 0; number <= 257; number++) {
            x.hall(number % 2, 0, 0);
        }
        due.is("told(1, 0)", x.told(1, 0), 257);
        x.walk(1, 0, 0);
        due.trace(x, "walk to hall 257", 57, 157);
        for (int number = 258; number <= 300; number++) {
            x.hall(0, 0, 0);
        }
        x.walk(0, 0, 0);
        due.trace(x, "walk to hall 300", 0, 100);
        x.hall(0, 0, 0);
        x.walk(0, 0, 0);
        due.trace(x, "walk to hall 301", 1, 101);
    }
}

/** Promise 5: fill. */
public final class FillTest {
    public static void main(String[] args) {
        Due due = new Due();
        ordinaryAndWrong(due);
        upToTheTop(due);
        due.end();
    }

    private static void ordinaryAndWrong(Due due) {
        GateHalls x = new GateHalls();
        due.is("fill(0)", x.fill(0), 0);
        due.is("fill(1000)", x.fill(1000), 1000);
        due.is("fill(1)", x.fill(1), 1001);
        int[] wrong = {-1, 1001, Integer.MIN_VALUE, Integer.MAX_VALUE};
        for (int w : wrong) {
            due.is("fill(" + w + ")", x.fill(w), -1);
        }
        due.is("count(0)", x.count(0), 1001);
    }

    private static void upToTheTop(Due due) {
        GateHalls x = new GateHalls();
        x.hall(0, 0, 0);
        x.walk(0, 1, 999500);
        x.walk(0, 2, 0);
        due.is("fill(499)", x.fill(499), 999999);
        due.is("fill(1)", x.fill(1), 1000000);
        due.is("fill(0)", x.fill(0), 1000000);
        due.is("fill(1000)", x.fill(1000), 1000000);
        due.is("count(0)", x.count(0), 1000000);
    }
}

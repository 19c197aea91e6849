/** Promise 3: share. */
public final class ShareTest {
    public static void main(String[] args) {
        Due due = new Due();
        theSameHallStandsInBoth(due);
        noneIsSharedToo(due);
        aPlaceWithItself(due);
        wrongNumbersChangeNothing(due);
        due.end();
    }

    private static void theSameHallStandsInBoth(Due due) {
        GateHalls x = new GateHalls();
        x.hall(0, 1, 0);
        x.hall(9, 0, 0);
        due.is("share(0, 9)", x.share(0, 9), 1);
        due.is("told(9, 0)", x.told(9, 0), 0);
        x.fill(10);
        x.walk(9, 1, 6);
        due.is("gifts(0)", x.gifts(0), 6);
        due.is("told(0, 3)", x.told(0, 3), 1);
        due.is("count(1)", x.count(1), 2);
        due.is("count(2)", x.count(2), 2);
    }

    private static void noneIsSharedToo(Due due) {
        GateHalls x = new GateHalls();
        x.hall(1, 0, 0);
        due.is("share(2, 1)", x.share(2, 1), 0);
        due.is("told(1, 0)", x.told(1, 0), -1);
        due.is("count(2)", x.count(2), 0);
    }

    private static void aPlaceWithItself(Due due) {
        GateHalls x = new GateHalls();
        due.is("share(4, 4)", x.share(4, 4), 0);
        x.hall(4, 2, 3);
        due.is("share(4, 4)", x.share(4, 4), 1);
        due.is("told(4, 0)", x.told(4, 0), 0);
    }

    private static void wrongNumbersChangeNothing(Due due) {
        GateHalls x = new GateHalls();
        x.hall(0, 0, 0);
        int[] wrong = {-1, 10, Integer.MIN_VALUE, Integer.MAX_VALUE};
        for (int w : wrong) {
            due.is("share(" + w + ", 0)", x.share(w, 0), -1);
            due.is("share(0, " + w + ")", x.share(0, w), -1);
            due.is("share(" + w + ", " + w + ")", x.share(w, w), -1);
        }
        due.is("told(0, 0)", x.told(0, 0), 0);
        due.is("count(2)", x.count(2), 1);
    }
}

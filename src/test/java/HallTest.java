/** Promise 2: hall. */
public final class HallTest {
    public static void main(String[] args) {
        Due due = new Due();
        numbersAndEdges(due);
        wrongNumbersChangeNothing(due);
        aNewHallTakesThePlaceOfTheOld(due);
        manyHalls(due);
        due.end();
    }

    private static void numbersAndEdges(Due due) {
        GateHalls x = new GateHalls();
        due.is("hall(0, 0, 0)", x.hall(0, 0, 0), 0);
        due.is("hall(9, 2, 1000)", x.hall(9, 2, 1000), 1);
        due.is("hall(5, 1, 7)", x.hall(5, 1, 7), 2);
        due.is("told(9, 0)", x.told(9, 0), 1);
        due.is("told(9, 1)", x.told(9, 1), 2);
        due.is("told(9, 2)", x.told(9, 2), 1000);
        due.is("told(5, 1)", x.told(5, 1), 1);
        due.is("count(2)", x.count(2), 3);
    }

    private static void wrongNumbersChangeNothing(Due due) {
        GateHalls x = new GateHalls();
        x.hall(3, 1, 4);
        int[][] wrong = {
            {-1, 0, 0}, {10, 0, 0}, {Integer.MIN_VALUE, 0, 0}, {Integer.MAX_VALUE, 0, 0},
            {3, -1, 0}, {3, 3, 0}, {3, Integer.MIN_VALUE, 0}, {3, Integer.MAX_VALUE, 0},
            {3, 0, -1}, {3, 0, 1001}, {3, 0, Integer.MIN_VALUE}, {3, 0, Integer.MAX_VALUE},
        };
        for (int[] w : wrong) {
            due.is("hall(" + w[0] + ", " + w[1] + ", " + w[2] + ")", x.hall(w[0], w[1], w[2]), -1);
        }
        due.is("count(1)", x.count(1), 1);
        due.is("told(3, 0)", x.told(3, 0), 0);
        due.is("told(3, 1)", x.told(3, 1), 1);
        due.is("hall(4, 0, 0)", x.hall(4, 0, 0), 1);
    }

    private static void aNewHallTakesThePlaceOfTheOld(Due due) {
        GateHalls x = new GateHalls();
        x.hall(3, 0, 0);
        x.share(3, 4);
        x.walk(3, 1, 50);
        due.is("hall(3, 0, 2)", x.hall(3, 0, 2), 1);
        due.is("gifts(3)", x.gifts(3), 0);
        due.is("told(3, 3)", x.told(3, 3), 0);
        due.is("told(4, 0)", x.told(4, 0), 0);
        due.is("gifts(4)", x.gifts(4), 50);
        due.is("count(2)", x.count(2), 2);
    }

    private static void manyHalls(Due due) {
        GateHalls x = new GateHalls();
        for (int number = 0; number < 510; number++) {
            due.is("hall " + number, x.hall(number % 10, number % 3, number), number);
        }
        due.is("told(9, 0)", x.told(9, 0), 509);
        due.is("count(1)", x.count(1), 510);
    }
}

/** Promise 6: walk; each deed with its edges. */
public final class DeedsTest {
    private static GateHalls withFreeHall() {
        GateHalls x = new GateHalls();
        x.hall(0, 0, 0);
        return x;
    }

    public static void main(String[] args) {
        Due due = new Due();
        none(due);
        giving(due);
        takingGifts(due);
        takingGiftsFails(due);
        dividingGifts(due);
        clearingAPlace(due);
        walkingOn(due);
        walkingOnTooDeep(due);
        failureWithin(due);
        failing(due);
        earning(due);
        due.end();
    }

    private static void none(Due due) {
        GateHalls x = withFreeHall();
        due.is("walk(0, 0, 55)", x.walk(0, 0, 55), 1);
        due.is("gifts(0)", x.gifts(0), 0);
        due.is("count(0)", x.count(0), 0);
    }

    private static void giving(Due due) {
        GateHalls x = withFreeHall();
        x.hall(1, 0, 0);
        x.parent(1, 0);
        due.is("walk(1, 1, 5)", x.walk(1, 1, 5), 1);
        due.is("gifts(0)", x.gifts(0), 0);
        due.is("gifts(1)", x.gifts(1), 5);
        x.walk(1, 1, -8);
        due.is("gifts(1)", x.gifts(1), -3);
        x.walk(0, 1, Integer.MAX_VALUE);
        due.is("walk(0, 1, 1)", x.walk(0, 1, 1), 1);
        due.is("gifts(0)", x.gifts(0), Integer.MIN_VALUE);
    }

    private static void takingGifts(Due due) {
        GateHalls x = withFreeHall();
        x.walk(0, 1, 1000000);
        due.is("walk(0, 2, 0)", x.walk(0, 2, 0), 1);
        due.is("count(0)", x.count(0), 1000000);
        due.is("gifts(0)", x.gifts(0), 0);
        x.walk(0, 1, -1000000);
        due.is("walk(0, 2, 0)", x.walk(0, 2, 0), 1);
        due.is("count(0)", x.count(0), 0);
        due.is("gifts(0)", x.gifts(0), 0);
    }

    private static void takingGiftsFails(Due due) {
        int[] tooMuch = {1000000, Integer.MAX_VALUE, -2, Integer.MIN_VALUE};
        for (int gifts : tooMuch) {
            GateHalls x = withFreeHall();
            x.fill(1);
            x.walk(0, 1, gifts);
            due.is("walk(0, 2, 0) with " + gifts, x.walk(0, 2, 0), -32);
            due.is("count(0)", x.count(0), 1);
            due.is("count(3)", x.count(3), 22);
            due.is("gifts(0)", x.gifts(0), gifts);
            due.trace(x, "walk(0, 2, 0)", 0, 100);
        }
    }

    private static void dividingGifts(Due due) {
        int[][] rows = {
            {9, 2, 4}, {-9, 2, -4}, {9, -2, -4}, {-9, -2, 4}, {5, 7, 0},
            {Integer.MIN_VALUE, -1, Integer.MIN_VALUE}, {Integer.MIN_VALUE, 10, -214748364},
            {Integer.MAX_VALUE, Integer.MIN_VALUE, 0},
        };
        for (int[] row : rows) {
            GateHalls x = withFreeHall();
            x.walk(0, 1, row[0]);
            due.is("walk(0, 3, " + row[1] + ")", x.walk(0, 3, row[1]), 1);
            due.is("gifts(0) of " + row[0], x.gifts(0), row[2]);
            due.is("walk(0, 3, 0)", x.walk(0, 3, 0), -16);
            due.is("count(3)", x.count(3), 6);
            due.is("gifts(0) after 0", x.gifts(0), row[2]);
        }
    }

    private static void clearingAPlace(Due due) {
        int[][] rows = {{4, 4}, {0, 0}, {9, 9}, {17, 7}, {-1, 9}, {-10, 0}, {-13, 7},
            {Integer.MAX_VALUE, 7}, {Integer.MIN_VALUE, 2}};
        for (int[] row : rows) {
            GateHalls x = new GateHalls();
            for (int place = 0; place < 10; place++) {
                x.hall(place, 0, 0);
            }
            due.is("walk(0, 4, " + row[0] + ")", x.walk(0, 4, row[0]), 1);
            // Also a hall whose place was cleared from inside of it is left.
            due.trace(x, "walk(0, 4, " + row[0] + ")", 0, 100);
            for (int place = 0; place < 10; place++) {
                due.is("told(" + place + ", 0)", x.told(place, 0), place == row[1] ? -1 : place);
            }
            due.is("walk(1, 4, " + row[0] + ") again", x.walk(1, 4, row[0]), 1);
        }
        GateHalls y = withFreeHall();
        y.share(0, 1);
        y.walk(0, 4, 0);
        due.is("told(0, 0)", y.told(0, 0), -1);
        due.is("told(1, 6)", y.told(1, 6), 0);
        due.is("told(1, 3)", y.told(1, 3), 1);
    }

    private static void walkingOn(Due due) {
        GateHalls x = new GateHalls();
        for (int place = 0; place < 10; place++) {
            x.hall(place, 0, 0);
        }
        due.is("walk(3, 5, 7)", x.walk(3, 5, 7), 1);
        due.trace(x, "walk(3, 5, 7)", 3, 7, 107, 103);
        due.is("walk(3, 5, 12)", x.walk(3, 5, 12), 1);
        due.trace(x, "walk(3, 5, 12)", 3, 2, 1, 101, 102, 103);
        due.is("walk(3, 5, 0)", x.walk(3, 5, 0), 1);
        due.trace(x, "walk(3, 5, 0)", 3, 0, 100, 103);
        due.is("walk(3, 5, 10)", x.walk(3, 5, 10), 1);
        due.trace(x, "walk(3, 5, 10)", 3, 0, 1, 101, 100, 103);
        due.is("walk(3, 5, -1)", x.walk(3, 5, -1), 1);
        due.trace(x, "walk(3, 5, -1)", 3, 9, 109, 103);
        due.is("walk(3, 5, -13)", x.walk(3, 5, -13), 1);
        due.trace(x, "walk(3, 5, -13)", 3, 7, 9, 109, 107, 103);
        due.is("walk(3, 5, -10)", x.walk(3, 5, -10), 1);
        due.trace(x, "walk(3, 5, -10)", 3, 0, 9, 109, 100, 103);
        x.parent(7, 6);
        due.is("walk(3, 5, 7)", x.walk(3, 5, 7), 1);
        due.trace(x, "walk(3, 5, 7)", 3, 6, 7, 107, 106, 103);
    }

    private static void walkingOnTooDeep(Due due) {
        GateHalls x = new GateHalls();
        for (int place = 0; place < 10; place++) {
            x.hall(place, 0, 0);
        }
        due.is("walk(1, 5, 99)", x.walk(1, 5, 99), 1);
        due.is("count(4)", x.count(4), 3);
        due.is("walk(1, 5, 432)", x.walk(1, 5, 432), -12);
        due.trace(x, "walk(1, 5, 432)", 1, 2, 3, 103, 102, 101);
        due.is("count(3)", x.count(3), 2);
        due.is("count(4)", x.count(4), 6);
        due.is("count(5)", x.count(5), 3);
        due.is("walk(1, 5, MAX)", x.walk(1, 5, Integer.MAX_VALUE), -12);
        due.is("walk(1, 5, MIN)", x.walk(1, 5, Integer.MIN_VALUE), -12);
        due.is("count(4)", x.count(4), 12);
        // Too many walks are refused before the path is looked for.
        x.parent(4, 4);
        due.is("walk(1, 5, 432) before the path", x.walk(1, 5, 432), -12);
        due.is("walk(1, 0, 0) afterwards", x.walk(1, 0, 0), 1);
    }

    private static void failureWithin(Due due) {
        GateHalls x = new GateHalls();
        x.hall(0, 0, 2);
        x.hall(1, 0, 50);
        x.hall(2, 0, 0);
        x.parent(2, 0);
        x.fill(10);
        due.is("walk(2, 5, 9)", x.walk(2, 5, 9), -11);
        due.trace(x, "walk(2, 5, 9)", 0, 2, 102, 100);
        due.is("walk(2, 5, 12)", x.walk(2, 5, 12), -30);
        due.trace(x, "walk(2, 5, 12)", 0, 2, 0, 2, 1, 101, 102, 100, 102, 100);
        due.is("count(0)", x.count(0), 4);
        due.is("count(5)", x.count(5), 5);
        due.is("told(0, 6)", x.told(0, 6), 0);
        due.is("told(0, 7)", x.told(0, 7), 2);
    }

    private static void failing(Due due) {
        int[][] rows = {{0, -30}, {1, -31}, {2, -32}, {3, -33}, {4, -30}, {-1, -33}, {-4, -30}, {-6, -32},
            {Integer.MAX_VALUE, -33}, {Integer.MIN_VALUE, -30}};
        GateHalls x = withFreeHall();
        for (int[] row : rows) {
            due.is("walk(0, 6, " + row[0] + ")", x.walk(0, 6, row[0]), row[1]);
            due.is("count(3)", x.count(3), -10 - row[1]);
            due.trace(x, "walk(0, 6, " + row[0] + ")", 0, 100);
        }
    }

    private static void earning(Due due) {
        GateHalls x = withFreeHall();
        x.share(0, 1);
        x.hall(2, 0, 0);
        x.parent(2, 1);
        x.parent(1, 0);
        due.is("walk(0, 7, 0)", x.walk(0, 7, 0), 1);
        due.is("count(0)", x.count(0), 1);
        due.is("walk(2, 7, 0)", x.walk(2, 7, 0), 1);
        due.is("count(0)", x.count(0), 4);
        x.walk(2, 1, 1000000 - 7);
        x.walk(2, 2, 0);
        due.is("walk(2, 7, 0) up to the top", x.walk(2, 7, 0), 1);
        due.is("count(0)", x.count(0), 1000000);
        due.is("walk(0, 7, 0) above the top", x.walk(0, 7, 0), -32);
        due.is("count(0)", x.count(0), 1000000);
        due.trace(x, "walk(0, 7, 0)", 0, 100);
    }
}

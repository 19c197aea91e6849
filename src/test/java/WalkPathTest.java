/** Promise 6: walk; the path, passing into halls and leaving them, and wrong numbers. */
public final class WalkPathTest {
    public static void main(String[] args) {
        Due due = new Due();
        outermostFirst(due);
        thePathOfAllTenPlaces(due);
        aPathThatComesBack(due);
        aMissingHallOnTheWay(due);
        theSameHallTwiceOnThePath(due);
        wrongNumbersChangeNothing(due);
        due.end();
    }

    private static void outermostFirst(Due due) {
        GateHalls x = new GateHalls();
        x.hall(7, 0, 0);
        x.hall(2, 0, 0);
        x.hall(5, 0, 0);
        x.parent(7, 2);
        x.parent(2, 5);
        due.is("walk(7, 0, 0)", x.walk(7, 0, 0), 1);
        due.trace(x, "walk(7, 0, 0)", 2, 1, 0, 100, 101, 102);
        due.is("walk(2, 0, 0)", x.walk(2, 0, 0), 1);
        due.trace(x, "walk(2, 0, 0)", 2, 1, 101, 102);
        due.is("told(5, 3)", x.told(5, 3), 2);
        due.is("told(7, 3)", x.told(7, 3), 1);
        due.is("told(5, 6)", x.told(5, 6), 0);
    }

    private static void thePathOfAllTenPlaces(Due due) {
        GateHalls x = new GateHalls();
        for (int place = 0; place < 10; place++) {
            x.hall(place, 0, 1);
            x.parent(place, place - 1);
        }
        x.fill(10);
        due.is("walk(9, 0, 0)", x.walk(9, 0, 0), 1);
        due.is("count(0)", x.count(0), 0);
        due.is("count(5)", x.count(5), 10);
        due.trace(x, "walk(9, 0, 0)",
            0, 1, 2, 3, 4, 5, 6, 7, 8, 9, 109, 108, 107, 106, 105, 104, 103, 102, 101, 100);
        x.fill(30);
        due.is("walk(9, 5, 99)", x.walk(9, 5, 99), 1);
        due.is("count(0)", x.count(0), 0);
        due.is("count(5)", x.count(5), 30);
        due.is("trace(-1)", x.trace(-1), 60);
        due.is("trace(29)", x.trace(29), 9);
        due.is("trace(30)", x.trace(30), 109);
        due.is("trace(59)", x.trace(59), 100);
        due.is("told(4, 7)", x.told(4, 7), 3);
        due.is("told(4, 6)", x.told(4, 6), 0);
        x.parent(0, 9);
        due.is("walk(9, 0, 0) in a ring of ten", x.walk(9, 0, 0), -18);
    }

    private static void aPathThatComesBack(Due due) {
        GateHalls x = new GateHalls();
        x.hall(0, 0, 0);
        x.parent(0, 0);
        due.is("walk(0, 0, 0)", x.walk(0, 0, 0), -18);
        due.trace(x, "walk(0, 0, 0)");
        due.is("told(0, 3)", x.told(0, 3), 0);
        due.is("count(3)", x.count(3), 8);
        due.is("count(4)", x.count(4), 1);
        due.is("count(5)", x.count(5), 0);
        x.parent(1, 2);
        x.parent(2, 3);
        x.parent(3, 2);
        due.is("walk(1, 0, 0)", x.walk(1, 0, 0), -18);
        x.parent(3, -1);
        due.is("walk(1, 0, 0)", x.walk(1, 0, 0), -11);
        x.parent(4, 3);
        x.parent(3, 4);
        x.hall(5, 0, 0);
        due.is("walk(5, 5, 4)", x.walk(5, 5, 4), -18);
        due.trace(x, "walk(5, 5, 4)", 1, 101);
    }

    private static void aMissingHallOnTheWay(Due due) {
        GateHalls x = new GateHalls();
        x.hall(0, 0, 2);
        x.hall(2, 0, 2);
        x.parent(2, 1);
        x.parent(1, 0);
        x.fill(10);
        due.is("walk(2, 1, 5)", x.walk(2, 1, 5), -11);
        due.trace(x, "walk(2, 1, 5)", 0, 100);
        due.is("count(0)", x.count(0), 8);
        due.is("gifts(2)", x.gifts(2), 0);
        due.is("told(2, 3)", x.told(2, 3), 0);
        due.is("told(0, 6)", x.told(0, 6), 0);
        due.is("count(5)", x.count(5), 1);
    }

    private static void theSameHallTwiceOnThePath(Due due) {
        GateHalls x = new GateHalls();
        x.hall(0, 1, 1);
        x.share(0, 1);
        x.parent(1, 0);
        x.fill(100);
        due.is("walk(1, 0, 0)", x.walk(1, 0, 0), 1);
        due.trace(x, "walk(1, 0, 0)", 0, 0, 100, 100);
        due.is("told(0, 3)", x.told(0, 3), 2);
        due.is("told(0, 5)", x.told(0, 5), 5);
        due.is("told(0, 6)", x.told(0, 6), 0);
        due.is("told(0, 7)", x.told(0, 7), 2);
    }

    private static void wrongNumbersChangeNothing(Due due) {
        GateHalls x = new GateHalls();
        x.hall(0, 0, 0);
        x.walk(0, 6, 1);
        int[] wrong = {-1, 10, Integer.MIN_VALUE, Integer.MAX_VALUE};
        for (int w : wrong) {
            due.is("walk(" + w + ", 0, 0)", x.walk(w, 0, 0), -1);
        }
        wrong[1] = 8;
        for (int w : wrong) {
            due.is("walk(0, " + w + ", 0)", x.walk(0, w, 0), -1);
        }
        due.trace(x, "wrong walks", 0, 100);
        due.is("count(3)", x.count(3), 21);
        due.is("count(4)", x.count(4), 1);
        due.is("count(5)", x.count(5), 1);
        due.is("told(0, 3)", x.told(0, 3), 1);
    }
}

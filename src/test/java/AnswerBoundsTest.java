/** Promises 1 to 5 and 8 to 11: the least and the most that each sentence lets through, and what is empty or full. */
public final class AnswerBoundsTest {
    private static final Due due = new Due();

    public static void main(String[] args) {
        noneAtFirst();
        numbersAsTheyAreMade();
        hallsAtTheEdges();
        numbersOfANewHall();
        aHallInAllPlaces();
        noneIsShared();
        aPlaceSharesWithItself();
        parentsAtTheEdges();
        aPlaceThatIsItsOwnParent();
        fillAtTheEdges();
        fillUpToTheTop();
        toldAtTheEdges();
        giftsWithoutAHall();
        traceAtTheEdges();
        traceIsEmptyFirst();
        placesWithAHall();
        failureOfTheLatestWalk();
        walksThatWereBegun();
        mostHallsOfTheLatestWalk();
        hallsMadeUpToTheLastCall();
        due.end();
    }

    private static void noneAtFirst() {
        due.sentence("1 A new object: No HALLS, no PARENTS");
        GateHalls x = new GateHalls();
        for (int what = 0; what <= 5; what++) {
            due.is("count(" + what + ")", x.count(what), 0);
        }
        due.is("trace(-1)", x.trace(-1), 0);
        due.is("trace(0)", x.trace(0), -1);
        for (int place = 0; place <= 9; place++) {
            for (int what = 0; what <= 7; what++) {
                due.is("told(" + place + ", " + what + ")", x.told(place, what), -1);
            }
            due.is("parent(" + place + ", -1)", x.parent(place, -1), -1);
        }
    }

    private static void numbersAsTheyAreMade() {
        due.sentence("HALLS have NUMBERS 0, 1, .. as they are made");
        GateHalls x = new GateHalls();
        due.is("hall(9, 0, 0)", x.hall(9, 0, 0), 0);
        due.is("hall(9, 3, 0)", x.hall(9, 3, 0), -1);
        due.is("hall(9, 0, 0) behind a refused one", x.hall(9, 0, 0), 1);
        x.walk(9, 4, 9);
        due.is("count(2)", x.count(2), 0);
        due.is("hall(9, 0, 0) behind one that is gone", x.hall(9, 0, 0), 2);
    }

    private static void hallsAtTheEdges() {
        due.sentence("2 hall: PLACE 0 .. 9, KIND 0 .. 2, a FEE 0 .. 1000");
        GateHalls x = new GateHalls();
        int number = 0;
        for (int place = 0; place <= 9; place++) {
            for (int kind = 0; kind <= 2; kind++) {
                for (int fee : new int[] {0, 1000}) {
                    String call = "hall(" + place + ", " + kind + ", " + fee + ")";
                    due.is(call, x.hall(place, kind, fee), number);
                    due.is(call + ": told 0", x.told(place, 0), number);
                    due.is(call + ": told 1", x.told(place, 1), kind);
                    due.is(call + ": told 2", x.told(place, 2), fee);
                    number++;
                }
            }
        }
    }

    private static void numbersOfANewHall() {
        due.sentence("HALLS have GIFTS (an int, 0), PASSES (0), ASKS (0), PAID (0), INSIDE (0), the MOST (0)");
        GateHalls x = new GateHalls();
        x.hall(6, 1, 2);
        x.fill(100);
        x.walk(6, 1, 5);
        x.seek(0);
        for (int made = 0; made < 2; made++) {
            x.hall(6, 1, 2);
            for (int what = 3; what <= 7; what++) {
                due.is("told(6, " + what + ")", x.told(6, what), 0);
            }
            due.is("gifts(6)", x.gifts(6), 0);
            x.walk(6, 1, 5);
        }
    }

    private static void aHallInAllPlaces() {
        due.sentence("a HALL may stand in several");
        GateHalls x = new GateHalls();
        x.hall(0, 1, 0);
        for (int place = 1; place <= 9; place++) {
            due.is("share(0, " + place + ")", x.share(0, place), 1);
            x.parent(place, place - 1);
        }
        due.is("count(1)", x.count(1), 1);
        due.is("count(2)", x.count(2), 10);
        x.fill(100);
        due.is("walk(9, 1, 7)", x.walk(9, 1, 7), 1);
        int[] want = {0, 1, 0, 10, 0, 55, 0, 10};
        for (int place = 0; place <= 9; place++) {
            for (int what = 0; what <= 7; what++) {
                due.is("told(" + place + ", " + what + ")", x.told(place, what), want[what]);
            }
            due.is("gifts(" + place + ")", x.gifts(place), 7);
        }
        x.hall(4, 0, 0);
        due.is("told(4, 0)", x.told(4, 0), 1);
        due.is("told(5, 0)", x.told(5, 0), 0);
    }

    private static void noneIsShared() {
        due.sentence("3 share: PLACE to gets what PLACE from has, or none: 1, 0");
        GateHalls x = new GateHalls();
        due.is("share(0, 9) of none to none", x.share(0, 9), 0);
        x.hall(9, 0, 0);
        due.is("share(9, 0)", x.share(9, 0), 1);
        due.is("share(5, 9) of none", x.share(5, 9), 0);
        due.is("told(9, 0)", x.told(9, 0), -1);
        due.is("told(0, 0)", x.told(0, 0), 0);
        due.is("count(2)", x.count(2), 1);
    }

    private static void aPlaceSharesWithItself() {
        due.sentence("3 share: from and to are one PLACE");
        GateHalls x = new GateHalls();
        due.is("share(0, 0) of none", x.share(0, 0), 0);
        x.hall(0, 0, 0);
        x.walk(0, 1, 8);
        due.is("share(0, 0)", x.share(0, 0), 1);
        due.is("gifts(0)", x.gifts(0), 8);
        due.is("count(2)", x.count(2), 1);
    }

    private static void parentsAtTheEdges() {
        due.sentence("4 parent: what it had (-1); -1: none");
        GateHalls x = new GateHalls();
        for (int place = 0; place <= 9; place++) {
            int had = -1;
            for (int of = -1; of <= 9; of++) {
                due.is("parent(" + place + ", " + of + ")", x.parent(place, of), had);
                had = of;
            }
            due.is("parent(" + place + ", -1)", x.parent(place, -1), 9);
            due.is("parent(" + place + ", -1) again", x.parent(place, -1), -1);
        }
    }

    private static void aPlaceThatIsItsOwnParent() {
        due.sentence("4 parent: it may be the PLACE itself");
        GateHalls x = new GateHalls();
        x.hall(3, 0, 0);
        due.is("parent(3, 3)", x.parent(3, 3), -1);
        due.is("walk(3, 0, 0)", x.walk(3, 0, 0), -18);
        due.is("parent(3, 3)", x.parent(3, 3), 3);
        due.is("parent(3, -1)", x.parent(3, -1), 3);
        due.is("walk(3, 0, 0)", x.walk(3, 0, 0), 1);
    }

    private static void fillAtTheEdges() {
        due.sentence("5 fill: THE PURSE gets n (0 .. 1000) more");
        GateHalls x = new GateHalls();
        due.is("fill(0)", x.fill(0), 0);
        due.is("fill(1)", x.fill(1), 1);
        due.is("fill(1000)", x.fill(1000), 1001);
        due.is("fill(999)", x.fill(999), 2000);
        due.is("count(0)", x.count(0), 2000);
    }

    private static GateHalls withPurse(int purse) {
        GateHalls x = new GateHalls();
        x.hall(0, 0, 0);
        x.walk(0, 1, purse);
        x.walk(0, 2, 0);
        return x;
    }

    private static void fillUpToTheTop() {
        due.sentence("5 fill: up to 1000000: THE PURSE");
        int[][] rows = {
            {999000, 1000, 1000000}, {999001, 1000, 1000000}, {998999, 1000, 999999},
            {999999, 1, 1000000}, {999999, 2, 1000000}, {1000000, 0, 1000000}, {1000000, 1000, 1000000},
        };
        for (int[] row : rows) {
            GateHalls x = withPurse(row[0]);
            due.is("fill(" + row[1] + ") at " + row[0], x.fill(row[1]), row[2]);
            due.is("count(0)", x.count(0), row[2]);
        }
    }

    private static void toldAtTheEdges() {
        due.sentence("8 told: what = 0 NUMBER .. 7 MOST");
        for (int place : new int[] {0, 9}) {
            GateHalls x = new GateHalls();
            x.hall(5, 0, 0);
            x.hall(place, 2, 6);
            x.fill(1000);
            x.walk(place, 0, 0);
            x.walk(place, 0, 0);
            x.seek(1);
            int[] want = {1, 2, 6, 2, place == 0 ? 1 : 2, 2 * (6 + 1) + 2 * (6 + 2), 0, 1};
            for (int what = 0; what <= 7; what++) {
                due.is("told(" + place + ", " + what + ")", x.told(place, what), want[what]);
            }
            due.is("told(" + place + ", -1)", x.told(place, -1), -1);
            due.is("told(" + place + ", 8)", x.told(place, 8), -1);
        }
    }

    private static void giftsWithoutAHall() {
        due.sentence("9 gifts: 0 without one");
        GateHalls x = new GateHalls();
        for (int place = 0; place <= 9; place++) {
            due.is("gifts(" + place + ") at first", x.gifts(place), 0);
            x.hall(place, 0, 0);
            x.walk(place, 1, -1);
            due.is("gifts(" + place + ")", x.gifts(place), -1);
            x.walk(place, 4, place);
            due.is("gifts(" + place + ") when it is gone", x.gifts(place), 0);
        }
    }

    private static void traceAtTheEdges() {
        due.sentence("10 trace: k -1 how many, else its k-th number");
        GateHalls x = new GateHalls();
        x.hall(0, 0, 0);
        x.hall(1, 0, 0);
        x.walk(1, 0, 0);
        due.is("trace(-2)", x.trace(-2), -1);
        due.is("trace(-1)", x.trace(-1), 2);
        due.is("trace(0)", x.trace(0), 1);
        due.is("trace(1)", x.trace(1), 101);
        due.is("trace(2)", x.trace(2), -1);
    }

    private static void traceIsEmptyFirst() {
        due.sentence("6 walk: THE TRACE is empty first");
        GateHalls x = new GateHalls();
        x.hall(0, 0, 0);
        x.hall(1, 0, 0);
        x.parent(1, 0);
        x.parent(2, 2);
        x.walk(1, 0, 0);
        due.trace(x, "walk(1, 0, 0)", 0, 1, 101, 100);
        x.walk(0, 0, 0);
        due.trace(x, "walk(0, 0, 0)", 0, 100);
        x.walk(3, 0, 0);
        due.trace(x, "walk(3, 0, 0) by failure 1");
        x.walk(0, 0, 0);
        x.walk(2, 0, 0);
        due.trace(x, "walk(2, 0, 0) by failure 8");
        x.walk(0, 0, 0);
        x.walk(0, 8, 0);
        due.trace(x, "a refused walk", 0, 100);
    }

    private static void placesWithAHall() {
        due.sentence("11 count: 1 HALLS that were made, 2 PLACES with a HALL");
        GateHalls x = new GateHalls();
        for (int place = 0; place <= 9; place++) {
            x.hall(place, 0, 0);
            x.hall(place, 0, 0);
            due.is("count(1)", x.count(1), 2 * place + 2);
            due.is("count(2)", x.count(2), place + 1);
        }
        for (int place = 9; place >= 0; place--) {
            x.walk(place, 4, place);
            due.is("count(1)", x.count(1), 20);
            due.is("count(2)", x.count(2), place);
        }
    }

    private static void failureOfTheLatestWalk() {
        due.sentence("11 count: 3 the FAILURE of the latest WALK from outside (0)");
        GateHalls x = new GateHalls();
        due.is("count(3) at first", x.count(3), 0);
        x.hall(0, 0, 0);
        int[][] rows = {{0, 6, 3, 23}, {0, 3, 0, 6}, {5, 0, 0, 1}, {0, 5, 5, 1}, {0, 5, 100, 2}, {0, 0, 0, 0}};
        for (int[] row : rows) {
            String call = "walk(" + row[0] + ", " + row[1] + ", " + row[2] + ")";
            due.is(call, x.walk(row[0], row[1], row[2]), row[3] == 0 ? 1 : -10 - row[3]);
            due.is(call + ": count(3)", x.count(3), row[3]);
            x.walk(10, 0, 0);
            x.seek(1);
            due.is(call + ", a refused one: count(3)", x.count(3), row[3]);
        }
    }

    private static void walksThatWereBegun() {
        due.sentence("11 count: 4 WALKS that were begun in all (those within, too; not those refused by FAILURE 2)");
        GateHalls x = new GateHalls();
        x.hall(0, 0, 0);
        x.parent(7, 7);
        int[][] rows = {
            {0, 0, 0, 1}, {0, 5, 0, 3}, {0, 5, 10, 6}, {0, 5, 100, 9}, {0, 5, 1000, 12},
            {5, 0, 0, 13}, {7, 0, 0, 14}, {0, 5, 7, 16}, {0, 5, 5, 18}, {0, 6, 0, 19}, {10, 0, 0, 19}, {0, 8, 0, 19},
        };
        for (int[] row : rows) {
            x.walk(row[0], row[1], row[2]);
            due.is("walk(" + row[0] + ", " + row[1] + ", " + row[2] + "): count(4)", x.count(4), row[3]);
        }
    }

    private static void mostHallsOfTheLatestWalk() {
        due.sentence("11 count: 5 the most HALLS one inside of the other in the latest one");
        GateHalls x = new GateHalls();
        x.hall(0, 0, 0);
        x.hall(1, 0, 0);
        x.hall(2, 2, 1);
        x.parent(1, 0);
        x.parent(2, 1);
        x.parent(4, 1);
        due.is("count(5) at first", x.count(5), 0);
        int[][] rows = {
            {1, 0, 0, 2}, {0, 0, 0, 1}, {2, 0, 0, 3}, {4, 0, 0, 2}, {3, 0, 0, 0},
            {1, 5, 1, 4}, {1, 5, 11, 6}, {0, 5, 1, 3}, {0, 5, 3, 1}, {10, 0, 0, 1},
        };
        for (int[] row : rows) {
            x.walk(row[0], row[1], row[2]);
            due.is("walk(" + row[0] + ", " + row[1] + ", " + row[2] + "): count(5)", x.count(5), row[3]);
        }
    }

    private static void hallsMadeUpToTheLastCall() {
        due.sentence("An object is used for at most 512 calls");
        GateHalls x = new GateHalls();
        for (int call = 0; call < 511; call++) {
            due.is("call " + call, x.hall(call % 10, 0, 0), call);
        }
        due.is("count(1)", x.count(1), 511);
    }
}

/** Terms 2: each deed at the edges that its sentence names. */
public final class DeedBoundsTest {
    private static final int LOW = Integer.MIN_VALUE;
    private static final int HIGH = Integer.MAX_VALUE;

    private static final Due due = new Due();

    public static void main(String[] args) {
        none();
        giftsRunOver();
        giftsOfThatHall();
        thePurseGetsGifts();
        thePurseWouldLeaveItsRange();
        theChargeIsPaidFirst();
        giftsAreCut();
        giftsByZero();
        aPlaceWithoutAHallAnyMore();
        aPlaceOnThePathIsCleared();
        aClearedPlaceOfASharedHall();
        walksWithinByDigits();
        walksWithinEndWithDeedNone();
        walksWithinHaveAPathToo();
        failuresByFour();
        thePurseGetsOneForEachHall();
        aHallThatIsPassedTwice();
        theTopOfThePurse();
        aDeedThatIsNotReached();
        due.end();
    }

    private static GateHalls allFree() {
        GateHalls x = new GateHalls();
        for (int place = 0; place <= 9; place++) {
            x.hall(place, 0, 0);
        }
        return x;
    }

    /** One free hall, in place 0. */
    private static GateHalls with(int gifts, int purse) {
        GateHalls x = new GateHalls();
        x.hall(0, 0, 0);
        x.walk(0, 1, purse);
        x.walk(0, 2, 0);
        x.walk(0, 1, gifts);
        return x;
    }

    private static void none() {
        due.sentence("0 none");
        for (int n : new int[] {0, 1, -1, LOW, HIGH}) {
            GateHalls x = with(5, 6);
            due.is("walk(0, 0, " + n + ")", x.walk(0, 0, n), 1);
            due.trace(x, "walk(0, 0, " + n + ")", 0, 100);
            due.is("gifts(0)", x.gifts(0), 5);
            due.is("count(0)", x.count(0), 6);
            due.is("count(2)", x.count(2), 1);
        }
    }

    private static void giftsRunOver() {
        due.sentence("1 GIFTS of that HALL are n more (running over)");
        int[][] rows = {
            {0, 0, 0}, {HIGH - 1, 1, HIGH}, {HIGH, 1, LOW}, {LOW + 1, -1, LOW}, {LOW, -1, HIGH},
            {HIGH, HIGH, -2}, {LOW, LOW, 0}, {HIGH, LOW, -1}, {5, -5, 0}, {0, LOW, LOW},
        };
        for (int[] row : rows) {
            GateHalls x = with(row[0], 0);
            due.is("walk(0, 1, " + row[1] + ")", x.walk(0, 1, row[1]), 1);
            due.is(row[0] + " and " + row[1] + ": gifts(0)", x.gifts(0), row[2]);
        }
    }

    private static void giftsOfThatHall() {
        due.sentence("1 GIFTS of that HALL: the last one alone");
        GateHalls x = allFree();
        x.parent(1, 0);
        x.parent(2, 1);
        x.walk(2, 1, 4);
        due.is("gifts(0)", x.gifts(0), 0);
        due.is("gifts(1)", x.gifts(1), 0);
        due.is("gifts(2)", x.gifts(2), 4);
    }

    private static void thePurseGetsGifts() {
        due.sentence("2 THE PURSE gets GIFTS; GIFTS are 0 then");
        int[][] rows = {
            {0, 0, 0}, {0, 1000000, 1000000}, {1, 999999, 1000000}, {1000000, 0, 1000000},
            {1000000, -1000000, 0}, {1, -1, 0}, {7, -6, 1}, {0, 1, 1},
        };
        for (int[] row : rows) {
            GateHalls x = with(row[1], row[0]);
            String call = "walk(0, 2, 0) with purse " + row[0] + ", gifts " + row[1];
            due.is(call, x.walk(0, 2, 0), 1);
            due.is(call + ": count(0)", x.count(0), row[2]);
            due.is(call + ": gifts(0)", x.gifts(0), 0);
        }
    }

    private static void thePurseWouldLeaveItsRange() {
        due.sentence("2 FAILURE 22 if it came below 0 or above 1000000 by that: nothing then");
        int[][] rows = {
            {0, -1}, {0, 1000001}, {1, -2}, {1, 1000000}, {1000000, 1}, {1000000, -1000001},
            {0, LOW}, {0, HIGH}, {1000000, LOW}, {1000000, HIGH}, {1, HIGH}, {999999, 2},
        };
        for (int[] row : rows) {
            GateHalls x = with(row[1], row[0]);
            String call = "walk(0, 2, 0) with purse " + row[0] + ", gifts " + row[1];
            due.is(call, x.walk(0, 2, 0), -32);
            due.is(call + ": count(0)", x.count(0), row[0]);
            due.is(call + ": count(3)", x.count(3), 22);
            due.is(call + ": gifts(0)", x.gifts(0), row[1]);
            due.trace(x, call, 0, 100);
        }
    }

    private static void theChargeIsPaidFirst() {
        due.sentence("2 THE PURSE gets GIFTS: inside of the HALL, its CHARGE is paid by then");
        GateHalls x = new GateHalls();
        x.hall(0, 0, 10);
        x.fill(30);
        x.walk(0, 1, -11);
        due.is("walk(0, 2, 0) with 20 and -11", x.walk(0, 2, 0), -32);
        due.is("count(0)", x.count(0), 10);
        x.walk(0, 1, 999989 + 11 + 10);
        due.is("count(0)", x.count(0), 0);
        x.fill(10);
        due.is("walk(0, 2, 0) up to the top", x.walk(0, 2, 0), 1);
        due.is("count(0)", x.count(0), 999999);
    }

    private static void giftsAreCut() {
        due.sentence("3 GIFTS by n (cut)");
        int[][] rows = {
            {7, 2, 3}, {-7, 2, -3}, {7, -2, -3}, {-7, -2, 3}, {1, 2, 0}, {-1, 2, 0}, {0, 5, 0}, {0, -1, 0},
            {9, 1, 9}, {9, -1, -9}, {9, 9, 1}, {9, 10, 0}, {HIGH, HIGH, 1}, {HIGH, LOW, 0}, {LOW, HIGH, -1},
            {LOW, LOW, 1}, {LOW, 1, LOW}, {LOW, -1, LOW}, {HIGH, -1, -HIGH}, {LOW, 2, -1073741824},
        };
        for (int[] row : rows) {
            GateHalls x = with(row[0], 0);
            due.is(row[0] + ": walk(0, 3, " + row[1] + ")", x.walk(0, 3, row[1]), 1);
            due.is(row[0] + " by " + row[1] + ": gifts(0)", x.gifts(0), row[2]);
        }
    }

    private static void giftsByZero() {
        due.sentence("3 FAILURE 6 if n is 0");
        for (int gifts : new int[] {0, 1, -1, LOW, HIGH}) {
            GateHalls x = with(gifts, 3);
            due.is(gifts + ": walk(0, 3, 0)", x.walk(0, 3, 0), -16);
            due.is("count(3)", x.count(3), 6);
            due.is("gifts(0)", x.gifts(0), gifts);
            due.is("count(0)", x.count(0), 3);
            due.trace(x, "walk(0, 3, 0)", 0, 100);
        }
    }

    private static void aPlaceWithoutAHallAnyMore() {
        due.sentence("4 PLACE n modulo 10 (from 0 on) has no HALL any more");
        int[][] rows = {
            {0, 0}, {9, 9}, {10, 0}, {11, 1}, {99, 9}, {100, 0}, {-1, 9}, {-2, 8}, {-9, 1}, {-10, 0}, {-11, 9},
            {-100, 0}, {HIGH, 7}, {LOW, 2}, {LOW + 1, 3},
        };
        for (int[] row : rows) {
            GateHalls x = allFree();
            due.is("walk(5, 4, " + row[0] + ")", x.walk(5, 4, row[0]), 1);
            for (int place = 0; place <= 9; place++) {
                due.is("n " + row[0] + ": told(" + place + ", 0)", x.told(place, 0), place == row[1] ? -1 : place);
            }
            due.is("count(2)", x.count(2), 9);
            due.is("walk(" + row[1] + ", 0, 0)", x.walk(row[1], 0, 0), -11);
            due.is("walk(5, 4, " + row[0] + ") where none is", x.walk(5, 4, row[0]), 1);
            due.is("count(2)", x.count(2), 9);
        }
    }

    private static void aPlaceOnThePathIsCleared() {
        due.sentence("4 PLACE n modulo 10 has no HALL any more: the HALL in it is LEFT all the same");
        for (int cleared = 0; cleared <= 2; cleared++) {
            GateHalls x = allFree();
            x.parent(1, 0);
            x.parent(2, 1);
            x.share(cleared, 7);
            String call = "walk(2, 4, " + cleared + ")";
            due.is(call, x.walk(2, 4, cleared), 1);
            due.trace(x, call, 0, 1, 2, 102, 101, 100);
            due.is(call + ": told(7, 6)", x.told(7, 6), 0);
            due.is(call + ": told(7, 7)", x.told(7, 7), 1);
            due.is(call + ": walk(2, 0, 0)", x.walk(2, 0, 0), -11);
        }
    }

    private static void aClearedPlaceOfASharedHall() {
        due.sentence("4 PLACE n modulo 10 has no HALL any more: others in which it stands keep it");
        GateHalls x = allFree();
        x.share(3, 4);
        x.parent(3, 8);
        x.walk(4, 1, 6);
        x.walk(0, 4, 3);
        due.is("told(3, 0)", x.told(3, 0), -1);
        due.is("told(4, 0)", x.told(4, 0), 3);
        due.is("gifts(4)", x.gifts(4), 6);
        // A place without a hall keeps its parent.
        due.is("parent(3, -1)", x.parent(3, -1), 8);
        due.is("count(1)", x.count(1), 10);
    }

    private static void walksWithinByDigits() {
        due.sentence("5 a WALK to PLACE n modulo 10, within, with DEED 5 and n by 10 (cut) if that is not 0");
        int[][] rows = {
            {10, 0, 1}, {11, 1, 1}, {12, 2, 1}, {90, 0, 9}, {99, 9, 9}, {19, 9, 1},
            {-10, 0, 9}, {-11, 9, 9}, {-12, 8, 9}, {-19, 1, 9}, {-20, 0, 8}, {-90, 0, 1}, {-99, 1, 1},
        };
        for (int[] row : rows) {
            GateHalls x = allFree();
            String call = "walk(4, 5, " + row[0] + ")";
            due.is(call, x.walk(4, 5, row[0]), 1);
            due.trace(x, call, 4, row[1], row[2], 100 + row[2], 100 + row[1], 104);
            due.is(call + ": count(4)", x.count(4), 3);
        }
        GateHalls y = allFree();
        due.is("walk(4, 5, -345)", y.walk(4, 5, -345), -12);
        due.trace(y, "walk(4, 5, -345)", 4, 5, 6, 106, 105, 104);
    }

    private static void walksWithinEndWithDeedNone() {
        due.sentence("5 .. else with DEED 0");
        int[][] rows = {{0, 0}, {1, 1}, {9, 9}, {-1, 9}, {-5, 5}, {-9, 1}};
        for (int[] row : rows) {
            GateHalls x = allFree();
            String call = "walk(4, 5, " + row[0] + ")";
            due.is(call, x.walk(4, 5, row[0]), 1);
            due.trace(x, call, 4, row[1], 100 + row[1], 104);
            due.is(call + ": count(4)", x.count(4), 2);
            due.is(call + ": count(0)", x.count(0), 0);
            due.is(call + ": count(2)", x.count(2), 10);
            due.is(call + ": gifts", x.gifts(row[1]), 0);
        }
    }

    private static void walksWithinHaveAPathToo() {
        due.sentence("5 a WALK .. within: also to the PLACE itself, and to one around it");
        GateHalls x = allFree();
        x.parent(1, 0);
        due.is("walk(1, 5, 1)", x.walk(1, 5, 1), 1);
        due.trace(x, "walk(1, 5, 1)", 0, 1, 0, 1, 101, 100, 101, 100);
        due.is("walk(1, 5, 0)", x.walk(1, 5, 0), 1);
        due.trace(x, "walk(1, 5, 0)", 0, 1, 0, 100, 101, 100);
        due.is("told(0, 7)", x.told(0, 7), 2);
    }

    private static void failuresByFour() {
        due.sentence("6 FAILURE 20 and n modulo 4 (from 0 on)");
        int[][] rows = {
            {0, 20}, {1, 21}, {2, 22}, {3, 23}, {4, 20}, {5, 21}, {7, 23}, {8, 20},
            {-1, 23}, {-2, 22}, {-3, 21}, {-4, 20}, {-5, 23}, {-8, 20}, {HIGH, 23}, {LOW, 20}, {LOW + 1, 21},
        };
        for (int[] row : rows) {
            GateHalls x = with(5, 6);
            String call = "walk(0, 6, " + row[0] + ")";
            due.is(call, x.walk(0, 6, row[0]), -10 - row[1]);
            due.is(call + ": count(3)", x.count(3), row[1]);
            due.is(call + ": count(0)", x.count(0), 6);
            due.is(call + ": gifts(0)", x.gifts(0), 5);
            due.trace(x, call, 0, 100);
        }
    }

    private static void thePurseGetsOneForEachHall() {
        due.sentence("7 THE PURSE is 1 more for each HALL that this WALK PASSED INTO and did not LEAVE yet");
        for (int length = 1; length <= 10; length++) {
            GateHalls x = allFree();
            for (int place = 1; place < length; place++) {
                x.parent(place, place - 1);
            }
            // Halls of walks that are over do not count.
            x.walk(9, 5, 98);
            x.walk(9, 6, 0);
            String call = "walk(" + (length - 1) + ", 7, 5)";
            due.is(call, x.walk(length - 1, 7, 5), 1);
            due.is(call + ": count(0)", x.count(0), length);
        }
    }

    private static void aHallThatIsPassedTwice() {
        due.sentence("7 each HALL that was PASSED INTO: once for each time");
        GateHalls x = allFree();
        x.share(0, 1);
        x.share(0, 2);
        x.parent(1, 0);
        x.parent(2, 1);
        due.is("walk(2, 7, 0)", x.walk(2, 7, 0), 1);
        due.is("count(0)", x.count(0), 3);
    }

    private static void theTopOfThePurse() {
        due.sentence("7 FAILURE 22 as in 2");
        int[][] rows = {{999997, 1, 1000000}, {999998, -32, 999998}, {999999, -32, 999999}, {1000000, -32, 1000000}, {0, 1, 3}};
        for (int[] row : rows) {
            GateHalls x = with(77, row[0]);
            x.hall(1, 0, 0);
            x.hall(2, 0, 0);
            x.parent(1, 0);
            x.parent(2, 1);
            String call = "walk(2, 7, 0) with purse " + row[0];
            due.is(call, x.walk(2, 7, 0), row[1]);
            due.is(call + ": count(0)", x.count(0), row[2]);
            due.is(call + ": count(3)", x.count(3), row[1] == 1 ? 0 : 22);
            due.is(call + ": gifts(0)", x.gifts(0), 77);
            due.trace(x, call, 0, 1, 2, 102, 101, 100);
        }
    }

    private static void aDeedThatIsNotReached() {
        due.sentence("A FAILURE ends the WALK at once: no DEED is done then");
        for (int deed = 0; deed <= 7; deed++) {
            GateHalls x = allFree();
            x.walk(0, 1, 40);
            x.hall(1, 0, 9);
            x.parent(0, 1);
            String call = "walk(0, " + deed + ", 2)";
            due.is(call, x.walk(0, deed, 2), -30);
            due.trace(x, call, 10, 110);
            due.is(call + ": gifts(0)", x.gifts(0), 40);
            due.is(call + ": count(0)", x.count(0), 0);
            due.is(call + ": count(2)", x.count(2), 10);
            due.is(call + ": count(4)", x.count(4), 2);
        }
    }
}

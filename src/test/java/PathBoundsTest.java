/** Terms 2 and promise 6: a walk and its path, at the edges that the sentences name. */
public final class PathBoundsTest {
    private static final Due due = new Due();

    public static void main(String[] args) {
        threeWalksAtWork();
        aFourthWalkDoesNothing();
        tooManyComesBeforeAllElse();
        walksAreOverBehindAFailure();
        aPathOfOne();
        aPathOfTen();
        aPathAsThingsAreThen();
        itsOwnParent();
        placesThatComeTwice();
        aRingOfTen();
        theRingComesBeforeAMissingHall();
        aRingInAWalkWithin();
        twoPathsThroughOnePlace();
        aMissingHall();
        aMissingHallInAWalkWithin();
        theSameHallInSeveralPlaces();
        theLastOneIsLeftFirst();
        failuresEndAllWalks();
        whatWasDoneStaysDone();
        aFailureTellsTenLess();
        everyPlaceAndDeed();
        due.end();
    }

    private static GateHalls allFree() {
        GateHalls x = new GateHalls();
        for (int place = 0; place <= 9; place++) {
            x.hall(place, 0, 0);
        }
        return x;
    }

    private static void threeWalksAtWork() {
        due.sentence("FAILURE 2, if 3 WALKS are at work");
        int[][] rows = {
            {0, 1, 2}, {9, 1, 2}, {-9, 1, 2}, {10, 1, 3}, {99, 1, 3}, {-10, 1, 3}, {-99, 1, 3},
            {100, -12, 3}, {999, -12, 3}, {-100, -12, 3}, {Integer.MAX_VALUE, -12, 3}, {Integer.MIN_VALUE, -12, 3},
        };
        for (int[] row : rows) {
            GateHalls x = allFree();
            due.is("walk(4, 5, " + row[0] + ")", x.walk(4, 5, row[0]), row[1]);
            due.is("walk(4, 5, " + row[0] + "): count(3)", x.count(3), row[1] == 1 ? 0 : 2);
            due.is("walk(4, 5, " + row[0] + "): count(4)", x.count(4), row[2]);
        }
    }

    private static void aFourthWalkDoesNothing() {
        due.sentence("FAILURE 2: the WALK that is refused passes nothing");
        GateHalls x = allFree();
        due.is("walk(1, 5, 432)", x.walk(1, 5, 432), -12);
        due.trace(x, "walk(1, 5, 432)", 1, 2, 3, 103, 102, 101);
        due.told(x, "walk(1, 5, 432)", 3, 0, 1, 1, 1, 0);
        due.is("count(5)", x.count(5), 3);
    }

    private static void tooManyComesBeforeAllElse() {
        due.sentence("A WALK: FAILURE 2 ..; THE PATH ..; FAILURE 8 ..; FAILURE 1");
        GateHalls x = allFree();
        x.parent(4, 4);
        due.is("walk(1, 5, 432) to a path that comes back", x.walk(1, 5, 432), -12);
        x.parent(4, -1);
        x.walk(1, 4, 4);
        due.is("walk(1, 5, 432) to a missing hall", x.walk(1, 5, 432), -12);
    }

    private static void walksAreOverBehindAFailure() {
        due.sentence("if 3 WALKS are at work: a WALK that FAILED is at work no more");
        GateHalls x = allFree();
        x.parent(8, 8);
        x.walk(1, 4, 7);
        int[][] failing = {{1, 5, 432}, {1, 5, 8}, {1, 5, 82}, {1, 5, 7}, {1, 5, 72}, {1, 6, 0}, {1, 3, 0}, {8, 0, 0}, {7, 0, 0}};
        for (int[] w : failing) {
            String call = "walk(" + w[0] + ", " + w[1] + ", " + w[2] + ")";
            due.is(call + " fails", x.walk(w[0], w[1], w[2]) < -10 ? 1 : 0, 1);
            due.is("walk(1, 5, 99) behind " + call, x.walk(1, 5, 99), 1);
            due.trace(x, "walk(1, 5, 99) behind " + call, 1, 9, 9, 109, 109, 101);
        }
    }

    private static void aPathOfOne() {
        due.sentence("THE PATH to it: it, .. up to one without a PARENT: it alone");
        GateHalls x = allFree();
        // That others have it as a parent does not matter.
        x.parent(6, 5);
        due.is("walk(5, 0, 0)", x.walk(5, 0, 0), 1);
        due.trace(x, "walk(5, 0, 0)", 5, 105);
        due.is("count(5)", x.count(5), 1);
    }

    private static void aPathOfTen() {
        due.sentence("THE PATH to it: it, its PARENT, and so on up to one without a PARENT: all ten");
        GateHalls x = allFree();
        int[] order = {3, 7, 0, 9, 4, 1, 8, 2, 6, 5};
        for (int i = 1; i < 10; i++) {
            x.parent(order[i], order[i - 1]);
        }
        due.is("walk(5, 0, 0)", x.walk(5, 0, 0), 1);
        due.trace(x, "walk(5, 0, 0)", 3, 7, 0, 9, 4, 1, 8, 2, 6, 5, 105, 106, 102, 108, 101, 104, 109, 100, 107, 103);
        due.is("count(5)", x.count(5), 10);
        due.is("walk(5, 7, 0)", x.walk(5, 7, 0), 1);
        due.is("count(0)", x.count(0), 10);
    }

    private static void aPathAsThingsAreThen() {
        due.sentence("THE PATH .. as things are then; the HALL that stands there then");
        GateHalls x = allFree();
        x.parent(2, 1);
        x.walk(2, 0, 0);
        due.trace(x, "walk(2, 0, 0)", 1, 2, 102, 101);
        x.parent(2, 3);
        x.parent(1, 0);
        x.share(9, 3);
        x.walk(2, 0, 0);
        due.trace(x, "walk(2, 0, 0) with another parent", 9, 2, 102, 109);
        x.parent(2, -1);
        x.hall(2, 0, 0);
        x.walk(2, 0, 0);
        due.trace(x, "walk(2, 0, 0) without a parent", 10, 110);
    }

    private static void comesTwice(GateHalls x, int place) {
        String call = "walk(" + place + ", 1, 5)";
        int begun = x.count(4);
        due.is(call, x.walk(place, 1, 5), -18);
        due.trace(x, call);
        due.is(call + ": count(3)", x.count(3), 8);
        due.is(call + ": count(4)", x.count(4), begun + 1);
        due.is(call + ": count(5)", x.count(5), 0);
        for (int p = 0; p <= 9; p++) {
            due.is(call + ": told(" + p + ", 3)", x.told(p, 3), 0);
            due.is(call + ": gifts(" + p + ")", x.gifts(p), 0);
        }
    }

    private static void itsOwnParent() {
        due.sentence("FAILURE 8 if a PLACE comes twice: a PLACE that is its own PARENT");
        for (int place = 0; place <= 9; place++) {
            GateHalls x = allFree();
            x.parent(place, place);
            comesTwice(x, place);
            x.parent((place + 1) % 10, place);
            comesTwice(x, (place + 1) % 10);
            due.is("walk to a place beside it", x.walk((place + 2) % 10, 0, 0), 1);
        }
    }

    private static void placesThatComeTwice() {
        due.sentence("FAILURE 8 if a PLACE comes twice: a ring, and a way into it");
        GateHalls x = allFree();
        x.parent(0, 9);
        x.parent(9, 0);
        x.parent(4, 3);
        x.parent(3, 0);
        for (int place : new int[] {0, 9, 3, 4}) {
            comesTwice(x, place);
        }
        x.parent(9, -1);
        due.is("walk(4, 0, 0) without the ring", x.walk(4, 0, 0), 1);
        due.trace(x, "walk(4, 0, 0)", 9, 0, 3, 4, 104, 103, 100, 109);
    }

    private static void aRingOfTen() {
        due.sentence("FAILURE 8 if a PLACE comes twice: a ring of ten, and nine before one that is its own PARENT");
        GateHalls x = allFree();
        for (int place = 0; place <= 9; place++) {
            x.parent(place, (place + 9) % 10);
        }
        comesTwice(x, 9);
        comesTwice(x, 0);
        x.parent(0, 0);
        comesTwice(x, 9);
        x.parent(0, -1);
        due.is("walk(9, 0, 0) in a row of ten", x.walk(9, 0, 0), 1);
        due.is("count(5)", x.count(5), 10);
    }

    private static void theRingComesBeforeAMissingHall() {
        due.sentence("FAILURE 8 .. From the last of these on: FAILURE 1");
        GateHalls x = new GateHalls();
        x.parent(1, 0);
        x.parent(0, 1);
        due.is("walk(1, 0, 0) without halls", x.walk(1, 0, 0), -18);
        x.parent(0, -1);
        due.is("walk(1, 0, 0) without halls or a ring", x.walk(1, 0, 0), -11);
    }

    private static void aRingInAWalkWithin() {
        due.sentence("FAILURE 8 in a WALK within: those around it are LEFT");
        GateHalls x = allFree();
        x.parent(8, 8);
        due.is("walk(1, 5, 8)", x.walk(1, 5, 8), -18);
        due.trace(x, "walk(1, 5, 8)", 1, 101);
        due.is("count(4)", x.count(4), 2);
        due.is("walk(1, 5, 82)", x.walk(1, 5, 82), -18);
        due.trace(x, "walk(1, 5, 82)", 1, 2, 102, 101);
        due.is("count(4)", x.count(4), 5);
    }

    private static void twoPathsThroughOnePlace() {
        due.sentence("FAILURE 8 if a PLACE comes twice: in one PATH, not in those of two WALKS");
        GateHalls x = allFree();
        x.parent(1, 0);
        due.is("walk(1, 5, 11)", x.walk(1, 5, 11), 1);
        due.trace(x, "walk(1, 5, 11)", 0, 1, 0, 1, 0, 1, 101, 100, 101, 100, 101, 100);
        due.is("told(0, 7)", x.told(0, 7), 3);
    }

    private static void aMissingHall() {
        due.sentence("FAILURE 1 if there is none: nothing of it is done");
        int[][] traces = {{}, {0, 100}, {0, 1, 101, 100}};
        for (int missing = 0; missing <= 2; missing++) {
            GateHalls x = new GateHalls();
            for (int place = 0; place <= 2; place++) {
                x.hall(place, 0, 1);
                x.parent(place, place - 1);
            }
            x.share(9, missing);
            x.fill(10);
            String call = "walk(2, 1, 5) without the hall of " + missing;
            due.is(call, x.walk(2, 1, 5), -11);
            due.trace(x, call, traces[missing]);
            due.is(call + ": count(0)", x.count(0), 10 - missing);
            due.is(call + ": count(3)", x.count(3), 1);
            due.is(call + ": count(4)", x.count(4), 1);
            due.is(call + ": count(5)", x.count(5), missing);
            due.is(call + ": gifts(2)", x.gifts(2), 0);
            for (int place = 0; place <= 2; place++) {
                int passes = place == missing ? -1 : place < missing ? 1 : 0;
                due.is(call + ": told(" + place + ", 3)", x.told(place, 3), passes);
                due.is(call + ": told(" + place + ", 6)", x.told(place, 6), place == missing ? -1 : 0);
            }
        }
    }

    private static void aMissingHallInAWalkWithin() {
        due.sentence("FAILURE 1 in a WALK within, in the midst of its PATH");
        GateHalls x = allFree();
        x.parent(6, 5);
        x.parent(5, 4);
        x.walk(0, 4, 5);
        due.is("walk(1, 5, 6)", x.walk(1, 5, 6), -11);
        due.trace(x, "walk(1, 5, 6)", 1, 4, 104, 101);
        due.is("count(4)", x.count(4), 3);
        due.is("count(5)", x.count(5), 2);
    }

    private static void theSameHallInSeveralPlaces() {
        due.sentence("the HALL that stands there is PASSED INTO: a HALL that stands in several PLACES of THE PATH");
        GateHalls x = new GateHalls();
        x.hall(0, 1, 10);
        x.hall(1, 0, 0);
        x.share(0, 2);
        x.parent(1, 0);
        x.parent(2, 1);
        x.fill(100);
        due.is("walk(2, 1, 3)", x.walk(2, 1, 3), 1);
        due.trace(x, "walk(2, 1, 3)", 0, 1, 0, 100, 101, 100);
        due.is("told(0, 3)", x.told(0, 3), 2);
        due.is("told(0, 5)", x.told(0, 5), 11 + 12);
        due.is("told(0, 6)", x.told(0, 6), 0);
        due.is("told(0, 7)", x.told(0, 7), 2);
        due.is("count(0)", x.count(0), 100 - 23);
        due.is("count(5)", x.count(5), 3);
        due.is("gifts(0)", x.gifts(0), 3);
    }

    private static void theLastOneIsLeftFirst() {
        due.sentence("then all are LEFT, the last one first");
        GateHalls x = allFree();
        x.parent(1, 0);
        x.parent(3, 2);
        due.is("walk(1, 5, 3)", x.walk(1, 5, 3), 1);
        due.trace(x, "walk(1, 5, 3)", 0, 1, 2, 3, 103, 102, 101, 100);
    }

    private static void failuresEndAllWalks() {
        due.sentence("A FAILURE ends the WALK at once: each HALL that was PASSED INTO (also one that FAILED in that) is LEFT");
        GateHalls x = allFree();
        x.hall(3, 2, 0);
        x.hall(4, 0, 50);
        x.parent(3, 2);
        x.parent(5, 4);
        x.fill(6);
        x.walk(3, 0, 0);
        x.walk(3, 0, 0);
        due.is("walk(1, 5, 3): the guard is in the way", x.walk(1, 5, 3), -31);
        due.trace(x, "walk(1, 5, 3)", 1, 2, 10, 110, 102, 101);
        due.is("walk(1, 5, 56): the purse is too small", x.walk(1, 5, 56), -30);
        due.trace(x, "walk(1, 5, 56)", 1, 6, 11, 111, 106, 101);
        due.is("told(5, 3)", x.told(5, 3), 0);
        due.told(x, "both walks", 6, 0, 0, 0, 0, 0, 0, 0);
    }

    private static void whatWasDoneStaysDone() {
        due.sentence("what was done stays done");
        GateHalls x = new GateHalls();
        x.hall(0, 1, 4);
        x.hall(1, 0, 3);
        x.hall(2, 0, 90);
        x.parent(1, 0);
        x.parent(2, 1);
        x.fill(50);
        due.is("walk(2, 1, 7)", x.walk(2, 1, 7), -30);
        due.is("count(0)", x.count(0), 50 - 5 - 3);
        due.told(x, "walk(2, 1, 7)", 3, 1, 1, 1);
        due.told(x, "walk(2, 1, 7)", 5, 5, 3, 0);
        due.told(x, "walk(2, 1, 7)", 7, 1, 1, 1);
        due.is("walk(1, 6, 0)", x.walk(1, 6, 0), -30);
        due.is("count(0)", x.count(0), 42 - 6 - 3);
        due.told(x, "walk(1, 6, 0)", 5, 11, 6, 0);
    }

    private static void aFailureTellsTenLess() {
        due.sentence("A WALK that ends by a FAILURE tells -10 less it");
        GateHalls x = allFree();
        x.hall(2, 2, 0);
        x.parent(3, 3);
        x.share(9, 4);
        x.walk(0, 4, 4);
        x.walk(9, 1, -1);
        int[][] rows = {{4, 0, 0, 1}, {1, 5, 111, 2}, {0, 3, 0, 6}, {3, 0, 0, 8}, {2, 0, 0, 20}, {2, 0, 0, 20},
            {2, 0, 0, 21}, {9, 2, 0, 22}, {0, 6, 3, 23}};
        for (int[] row : rows) {
            String call = "walk(" + row[0] + ", " + row[1] + ", " + row[2] + ")";
            due.is(call, x.walk(row[0], row[1], row[2]), -10 - row[3]);
            due.is(call + ": count(3)", x.count(3), row[3]);
        }
    }

    private static void everyPlaceAndDeed() {
        due.sentence("6 walk: PLACE 0 .. 9, DEED 0 .. 7: 1");
        for (int place = 0; place <= 9; place++) {
            for (int deed = 0; deed <= 7; deed++) {
                String call = "walk(" + place + ", " + deed + ", 1)";
                due.is(call, allFree().walk(place, deed, 1), deed == 6 ? -31 : 1);
            }
        }
    }
}

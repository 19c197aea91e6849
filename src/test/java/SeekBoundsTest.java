/** Terms 3 and promise 7: seeking, at the edges that the sentences name. */
public final class SeekBoundsTest {
    private static final int LOW = Integer.MIN_VALUE;
    private static final int HIGH = Integer.MAX_VALUE;

    private static final Due due = new Due();

    public static void main(String[] args) {
        withoutHalls();
        withOneHall();
        everyPairOfPlaces();
        placesWithoutAHall();
        askedAllWhenNoneIsFound();
        nothingMoreIsAsked();
        theLeastPairIsFound();
        togetherAsLongs();
        sumsBeyondAnInt();
        belowZeroGoesOnBehind();
        theSumComesBeforeBelowZero();
        zeroIsNotBelowZero();
        belowZeroInTheOuterOne();
        theSameHallInBoth();
        nothingElseIsChanged();
        due.end();
    }

    private static GateHalls withGifts(int... gifts) {
        GateHalls x = new GateHalls();
        for (int place = 0; place < gifts.length; place++) {
            x.hall(place, 0, 0);
            x.walk(place, 1, gifts[place]);
        }
        return x;
    }

    private static void withoutHalls() {
        due.sentence("7 seek: -1: none is: no HALLS at all");
        GateHalls x = new GateHalls();
        for (long sum : new long[] {0, -1, 1, Long.MIN_VALUE, Long.MAX_VALUE}) {
            due.is("seek(" + sum + ")", x.seek(sum), -1);
        }
    }

    private static void withOneHall() {
        due.sentence("PLACES a from 0 on that have a HALL: ASKS of it are 1 more: also without a b");
        for (int place = 0; place <= 9; place++) {
            GateHalls x = new GateHalls();
            x.hall(place, 0, 0);
            due.is("seek(0)", x.seek(0), -1);
            due.is("told(" + place + ", 4)", x.told(place, 4), 1);
        }
    }

    private static void everyPairOfPlaces() {
        due.sentence("7 seek: 10 a + b FOUND");
        for (int a = 0; a <= 8; a++) {
            for (int b = a + 1; b <= 9; b++) {
                GateHalls x = new GateHalls();
                x.hall(a, 0, 0);
                x.hall(b, 0, 0);
                x.walk(a, 1, 3);
                x.walk(b, 1, 5);
                due.is("seek(8) with " + a + " and " + b, x.seek(8), 10 * a + b);
                due.is("told(" + a + ", 4)", x.told(a, 4), 1);
                due.is("told(" + b + ", 4)", x.told(b, 4), 1);
            }
        }
    }

    private static void placesWithoutAHall() {
        due.sentence("PLACES .. that have a HALL: those without one are passed over");
        GateHalls x = withGifts(1, 2, 3, 4, 5);
        x.walk(4, 4, 0);
        x.walk(4, 4, 3);
        due.is("seek(5)", x.seek(5), 12);
        due.told(x, "seek(5)", 4, -1, 1, 1, -1, 0);
        due.is("seek(8)", x.seek(8), 24);
        due.told(x, "seek(8)", 4, -1, 2, 3, -1, 2);
        due.is("seek(9)", x.seek(9), -1);
    }

    private static void askedAllWhenNoneIsFound() {
        due.sentence("inside of it PLACES b above a that have a HALL: ASKS of that are 1 more");
        GateHalls x = withGifts(0, 0, 0, 0, 0, 0, 0, 0, 0, 0);
        due.is("seek(1)", x.seek(1), -1);
        due.told(x, "seek(1)", 4, 1, 2, 3, 4, 5, 6, 7, 8, 9, 10);
        // Only b above a: no hall makes a pair with itself, nor with one below it.
        GateHalls y = withGifts(4, 1);
        due.is("seek(8)", y.seek(8), -1);
        due.is("seek(2)", y.seek(2), -1);
    }

    private static void nothingMoreIsAsked() {
        due.sentence("that is FOUND, both are left, and nothing more is asked");
        GateHalls x = withGifts(1, 2, 3, 4);
        due.is("seek(4)", x.seek(4), 2);
        due.told(x, "seek(4)", 4, 1, 1, 1, 0);
        due.is("seek(6)", x.seek(6), 13);
        due.told(x, "seek(6)", 4, 2, 3, 3, 2);
    }

    private static void theLeastPairIsFound() {
        due.sentence("PLACES a from 0 on; PLACES b from the least on");
        GateHalls x = withGifts(2, 2, 2, 2);
        due.is("seek(4)", x.seek(4), 1);
        due.is("seek(5) in 1 4 3 2", withGifts(1, 4, 3, 2).seek(5), 1);
        due.is("seek(5) in 9 4 2 3 1", withGifts(9, 4, 2, 3, 1).seek(5), 14);
    }

    private static void togetherAsLongs() {
        due.sentence("the GIFTS of both together (as longs)");
        int[][] rows = {{HIGH, HIGH}, {HIGH, 1}, {LOW, LOW}, {LOW, -1}, {LOW, HIGH}};
        for (int[] row : rows) {
            long sum = (long) row[0] + row[1];
            String pair = row[0] + " and " + row[1] + ": ";
            due.is(pair + "seek(" + sum + ")", withGifts(row).seek(sum), 1);
            if (sum != (int) sum) {
                due.is(pair + "seek(" + (int) sum + ")", withGifts(row).seek((int) sum), -1);
            }
        }
    }

    private static void sumsBeyondAnInt() {
        due.sentence("seek(long sum): a sum that no ints make");
        GateHalls x = withGifts(1, 2);
        for (long sum : new long[] {3 + (1L << 32), 3 - (1L << 32), Long.MIN_VALUE, Long.MAX_VALUE}) {
            due.is("seek(" + sum + ")", x.seek(sum), -1);
        }
        due.is("seek(3)", x.seek(3), 1);
    }

    private static void belowZeroGoesOnBehind() {
        due.sentence("if THOSE of b are below 0, both are left, and it goes on behind a");
        GateHalls x = withGifts(5, 1, -1, 5, 4);
        due.is("seek(10)", x.seek(10), -1);
        due.told(x, "seek(10)", 4, 1, 2, 3, 2, 3);
        due.is("seek(4)", x.seek(4), 2);
        due.is("seek(9)", x.seek(9), 34);
        due.is("seek(3)", x.seek(3), 24);
        GateHalls y = withGifts(5, LOW, 5);
        due.is("seek(10) past the least gifts", y.seek(10), -1);
    }

    private static void theSumComesBeforeBelowZero() {
        due.sentence("if the GIFTS of both together are the sum, that is FOUND; if THOSE of b are below 0");
        GateHalls x = withGifts(5, -1, 5);
        due.is("seek(4)", x.seek(4), 1);
        due.told(x, "seek(4)", 4, 1, 1, 0);
    }

    private static void zeroIsNotBelowZero() {
        due.sentence("if THOSE of b are below 0: 0 is not, -1 is");
        due.is("seek(10) in 5 0 5", withGifts(5, 0, 5).seek(10), 2);
        due.is("seek(10) in 5 -1 5", withGifts(5, -1, 5).seek(10), -1);
    }

    private static void belowZeroInTheOuterOne() {
        due.sentence("if THOSE of b are below 0: not those of a");
        GateHalls x = withGifts(-3, 1, 2);
        due.is("seek(-1)", x.seek(-1), 2);
        due.told(x, "seek(-1)", 4, 1, 1, 1);
    }

    private static void theSameHallInBoth() {
        due.sentence("a HALL may stand in several: it is asked once for each PLACE, and is a pair with itself");
        GateHalls x = withGifts(6);
        x.share(0, 9);
        due.is("seek(12)", x.seek(12), 9);
        due.is("told(0, 4)", x.told(0, 4), 2);
        due.is("seek(6)", x.seek(6), -1);
        due.is("told(9, 4)", x.told(9, 4), 2 + 3);
        GateHalls y = withGifts(-6);
        y.share(0, 1);
        y.share(0, 2);
        due.is("seek(-12)", y.seek(-12), 1);
        due.is("told(0, 4)", y.told(0, 4), 2);
        due.is("seek(0)", y.seek(0), -1);
        due.is("told(0, 4)", y.told(0, 4), 2 + 2 + 2 + 1);
    }

    private static void nothingElseIsChanged() {
        due.sentence("TO SEEK raises ASKS alone");
        GateHalls x = withGifts(1, -2, 3);
        GateHalls twin = withGifts(1, -2, 3);
        x.seek(100);
        x.seek(-1);
        due.told(x, "both", 4, 2, 3, 2);
        for (int place = 0; place <= 2; place++) {
            for (int what : new int[] {0, 1, 2, 3, 5, 6, 7}) {
                due.is("told(" + place + ", " + what + ")", x.told(place, what), twin.told(place, what));
            }
            due.is("gifts(" + place + ")", x.gifts(place), twin.gifts(place));
        }
        for (int what = 0; what <= 5; what++) {
            due.is("count(" + what + ")", x.count(what), twin.count(what));
        }
        due.trace(x, "both", 2, 102);
    }
}

/** Promise 7: seek. */
public final class SeekTest {
    private static GateHalls withGifts(int... gifts) {
        GateHalls x = new GateHalls();
        for (int place = 0; place < gifts.length; place++) {
            x.hall(place, 0, 0);
            x.walk(place, 1, gifts[place]);
        }
        return x;
    }

    private static void asks(Due due, GateHalls x, String after, int... want) {
        for (int place = 0; place < want.length; place++) {
            due.is(after + ": told(" + place + ", 4)", x.told(place, 4), want[place]);
        }
    }

    public static void main(String[] args) {
        Due due = new Due();
        found(due);
        notFound(due);
        belowZeroGoesOn(due);
        sumsAreLongs(due);
        sharedAndMissingHalls(due);
        theLastPlaces(due);
        nothingElseChanges(due);
        due.end();
    }

    private static void found(Due due) {
        GateHalls x = withGifts(1, 2, 3, 4);
        due.is("seek(3)", x.seek(3), 1);
        asks(due, x, "seek(3)", 1, 1, 0, 0);
        due.is("seek(5)", x.seek(5), 3);
        asks(due, x, "seek(5)", 2, 2, 1, 1);
        due.is("seek(6)", x.seek(6), 13);
        asks(due, x, "seek(6)", 3, 4, 3, 3);
        due.is("seek(7)", x.seek(7), 23);
        asks(due, x, "seek(7)", 4, 6, 6, 6);
    }

    private static void notFound(Due due) {
        GateHalls x = withGifts(1, 2, 3);
        due.is("seek(2)", x.seek(2), -1);
        asks(due, x, "seek(2)", 1, 2, 3);
        due.is("seek of none", new GateHalls().seek(0), -1);
        GateHalls one = withGifts(0);
        due.is("seek with one hall", one.seek(0), -1);
        asks(due, one, "seek with one hall", 1);
    }

    private static void belowZeroGoesOn(Due due) {
        GateHalls x = withGifts(5, -1, 5, 6);
        due.is("seek(10)", x.seek(10), -1);
        asks(due, x, "seek(10)", 1, 2, 2, 3);
        // The sum is looked at before the gifts below 0 are.
        due.is("seek(4)", x.seek(4), 1);
        asks(due, x, "seek(4)", 2, 3, 2, 3);
        // Gifts of a below 0 do not matter.
        due.is("seek(5)", x.seek(5), 13);
        asks(due, x, "seek(5)", 3, 5, 3, 4);
        // Gifts of 0 are not below 0.
        due.is("seek(10) past 0", withGifts(5, 0, 5).seek(10), 2);
    }

    private static void sumsAreLongs(Due due) {
        GateHalls x = withGifts(Integer.MAX_VALUE, Integer.MAX_VALUE);
        due.is("seek(-2)", x.seek(-2), -1);
        due.is("seek(2 MAX)", x.seek(2L * Integer.MAX_VALUE), 1);
        GateHalls y = withGifts(Integer.MIN_VALUE, Integer.MIN_VALUE);
        due.is("seek(0)", y.seek(0), -1);
        due.is("seek(2 MIN)", y.seek(2L * Integer.MIN_VALUE), 1);
        GateHalls z = withGifts(1, 2);
        due.is("seek(3 + 2^32)", z.seek(3L + (1L << 32)), -1);
        due.is("seek(Long.MIN)", z.seek(Long.MIN_VALUE), -1);
        due.is("seek(Long.MAX)", z.seek(Long.MAX_VALUE), -1);
    }

    private static void sharedAndMissingHalls(Due due) {
        GateHalls x = new GateHalls();
        x.hall(2, 0, 0);
        x.walk(2, 1, 4);
        x.share(2, 8);
        due.is("seek(8)", x.seek(8), 28);
        due.is("told(2, 4)", x.told(2, 4), 2);
        due.is("seek(4)", x.seek(4), -1);
        due.is("told(2, 4)", x.told(2, 4), 5);
    }

    private static void theLastPlaces(Due due) {
        GateHalls x = new GateHalls();
        x.hall(8, 0, 0);
        x.hall(9, 0, 0);
        due.is("seek(0)", x.seek(0), 89);
        due.is("told(9, 4)", x.told(9, 4), 1);
        due.is("seek(1)", x.seek(1), -1);
        due.is("told(9, 4)", x.told(9, 4), 3);
        due.is("told(8, 4)", x.told(8, 4), 2);
    }

    private static void nothingElseChanges(Due due) {
        GateHalls x = withGifts(1, 2);
        x.seek(3);
        x.seek(4);
        due.is("gifts(0)", x.gifts(0), 1);
        due.is("told(0, 3)", x.told(0, 3), 1);
        due.is("told(0, 6)", x.told(0, 6), 0);
        due.is("told(1, 6)", x.told(1, 6), 0);
        due.is("told(0, 7)", x.told(0, 7), 1);
        due.is("count(4)", x.count(4), 2);
        due.trace(x, "seek", 1, 101);
    }
}

import java.util.Arrays;

/** Halls behind halls, as told by the promises of DOC.md. */
public final class GateHalls {
    public static final int BAD = -1;

    private static final int PLACES = 10;
    private static final int NO_PLACE = -1;
    private static final int BAD_PARENT = -2;
    private static final int TOP_FEE = 1000;
    private static final int TOP_FILL = 1000;
    private static final int TOP_PURSE = 1000000;
    private static final int TOP_WALKS = 3;
    private static final int TOP_TRACE = 100;
    private static final int LEFT_MARK = 100;

    private static final int PLAIN = 0;
    private static final int GUARD = 2;

    private static final int NO_DEED = 0;
    private static final int GIVE = 1;
    private static final int TAKE_GIFTS = 2;
    private static final int DIVIDE_GIFTS = 3;
    private static final int CLEAR_PLACE = 4;
    private static final int WALK_ON = 5;
    private static final int FAIL = 6;
    private static final int EARN = 7;

    private static final int FINE = 0;
    private static final int HALL_MISSING = 1;
    private static final int WALKS_TOO_MANY = 2;
    private static final int DIVISOR_ZERO = 6;
    private static final int PATH_ENDLESS = 8;
    private static final int PURSE_TOO_SMALL = 20;
    private static final int GUARD_IN_THE_WAY = 21;
    private static final int PURSE_OUT_OF_RANGE = 22;

    private final Hall[] halls = new Hall[PLACES];
    private final int[] parents = new int[PLACES];
    private int purse;
    private int hallsMade;

    // One row serves all walks: a walk is done with its path before a walk within it begins.
    private final int[] path = new int[PLACES];
    // The halls themselves, not their places: a deed may clear a place whose hall is still to be left.
    private final Hall[] passed = new Hall[TOP_WALKS * PLACES];
    private int depth;
    private int deepest;
    private final int[] marks = new int[TOP_TRACE];
    private int marksLeft;
    private int latestFailure;
    private int walksBegun;

    public GateHalls() {
        Arrays.fill(parents, NO_PLACE);
    }

    public int hall(int place, int kind, int fee) {
        if (!isPlace(place) || kind < PLAIN || kind > GUARD || fee < 0 || fee > TOP_FEE) {
            return BAD;
        }
        int number = hallsMade;
        halls[place] = new Hall(number, kind, fee);
        hallsMade++;
        return number;
    }

    public int share(int from, int to) {
        if (!isPlace(from) || !isPlace(to)) {
            return BAD;
        }
        halls[to] = halls[from];
        return halls[to] == null ? 0 : 1;
    }

    public int parent(int place, int of) {
        if (!isPlace(place) || (of != NO_PLACE && !isPlace(of))) {
            return BAD_PARENT;
        }
        int before = parents[place];
        parents[place] = of;
        return before;
    }

    public int fill(int n) {
        if (n < 0 || n > TOP_FILL) {
            return BAD;
        }
        purse = Math.min(purse + n, TOP_PURSE);
        return purse;
    }

    public int walk(int place, int deed, int n) {
        if (!isPlace(place) || deed < NO_DEED || deed > EARN) {
            return BAD;
        }
        marksLeft = 0;
        deepest = 0;
        latestFailure = walkTo(place, deed, n, 0);
        return latestFailure == FINE ? 1 : -10 - latestFailure;
    }

    public int seek(long sum) {
        for (int a = 0; a < PLACES; a++) {
            Hall hall = halls[a];
            if (hall != null) {
                hall.asks++;
                int b = seekPartner(a, hall, sum);
                if (b != NO_PLACE) {
                    return 10 * a + b;
                }
            }
        }
        return -1;
    }

    public int told(int place, int what) {
        Hall hall = hallAt(place);
        return hall == null ? BAD : hall.fact(what);
    }

    public int gifts(int place) {
        Hall hall = hallAt(place);
        return hall == null ? 0 : hall.gifts;
    }

    public int trace(int k) {
        if (k == -1) {
            return marksLeft;
        }
        return k >= 0 && k < marksLeft && k < TOP_TRACE ? marks[k] : BAD;
    }

    public int count(int what) {
        switch (what) {
            case 0: return purse;
            case 1: return hallsMade;
            case 2: return placesWithHall();
            case 3: return latestFailure;
            case 4: return walksBegun;
            case 5: return deepest;
            default: return BAD;
        }
    }

    private static boolean isPlace(int place) {
        return place >= 0 && place < PLACES;
    }

    private Hall hallAt(int place) {
        return isPlace(place) ? halls[place] : null;
    }

    private int placesWithHall() {
        int found = 0;
        for (int place = 0; place < PLACES; place++) {
            if (halls[place] != null) {
                found++;
            }
        }
        return found;
    }

    private int seekPartner(int a, Hall outer, long sum) {
        for (int b = a + 1; b < PLACES; b++) {
            Hall inner = hallAt(b);
            if (inner != null) {
                inner.asks++;
                if ((long) outer.gifts + (long) inner.gifts == sum) {
                    return b;
                }
                if (inner.gifts < 0) {
                    return NO_PLACE;
                }
            }
        }
        return NO_PLACE;
    }

    /** Answers the failure that ended the walk, or FINE. */
    private int walkTo(int place, int deed, int n, int walksAtWork) {
        if (walksAtWork >= TOP_WALKS) {
            return WALKS_TOO_MANY;
        }
        walksBegun++;
        int length = findPath(place);
        if (length == 0) {
            return PATH_ENDLESS;
        }
        int depthOutside = depth;
        int failure = passPath(length);
        if (failure == FINE) {
            failure = doDeed(deed, n, walksAtWork + 1);
        }
        leaveUntil(depthOutside);
        return failure;
    }

    /** Answers the length of the path, 0 if a place comes twice in it. */
    private int findPath(int place) {
        int at = place;
        int length = 0;
        while (isPlace(at) && length < PLACES) {
            path[length] = at;
            length++;
            at = parents[at];
        }
        // There are but ten places: a path that still goes on behind ten has one of them twice.
        return at == NO_PLACE ? length : 0;
    }

    private int passPath(int length) {
        for (int i = Math.min(length, PLACES) - 1; i >= 0; i--) {
            Hall hall = hallAt(path[i]);
            int failure = hall == null ? HALL_MISSING : passInto(hall);
            if (failure != FINE) {
                return failure;
            }
        }
        return FINE;
    }

    private int passInto(Hall hall) {
        hall.enter();
        if (depth >= 0 && depth < passed.length) {
            passed[depth] = hall;
            depth++;
        }
        deepest = Math.max(deepest, depth);
        leaveMark(hall.mark());
        if (hall.guardIsInTheWay()) {
            return GUARD_IN_THE_WAY;
        }
        int charge = hall.charge();
        if (purse < charge) {
            return PURSE_TOO_SMALL;
        }
        purse -= charge;
        hall.paid += charge;
        return FINE;
    }

    private void leaveUntil(int depthOutside) {
        while (depth > depthOutside && depth > 0 && depth <= passed.length) {
            depth--;
            Hall hall = passed[depth];
            passed[depth] = null;
            if (hall != null) {
                hall.inside--;
                leaveMark(LEFT_MARK + hall.mark());
            }
        }
    }

    private void leaveMark(int mark) {
        if (marksLeft >= 0 && marksLeft < TOP_TRACE) {
            marks[marksLeft] = mark;
            marksLeft++;
        }
    }

    private Hall innermost() {
        return depth > 0 && depth <= passed.length ? passed[depth - 1] : null;
    }

    private int doDeed(int deed, int n, int walksAtWork) {
        Hall hall = innermost();
        if (hall == null) {
            return HALL_MISSING;
        }
        switch (deed) {
            case GIVE:
                hall.gifts += n;
                return FINE;
            case TAKE_GIFTS: return takeGifts(hall);
            case DIVIDE_GIFTS: return divideGifts(hall, n);
            case CLEAR_PLACE:
                halls[Math.floorMod(n, PLACES)] = null;
                return FINE;
            case WALK_ON: return walkOn(n, walksAtWork);
            case FAIL: return 20 + Math.floorMod(n, 4);
            case EARN: return addToPurse(depth);
            default: return FINE;
        }
    }

    private int takeGifts(Hall hall) {
        int failure = addToPurse(hall.gifts);
        if (failure == FINE) {
            hall.gifts = 0;
        }
        return failure;
    }

    private int addToPurse(int amount) {
        long after = (long) purse + (long) amount;
        if (after < 0 || after > TOP_PURSE) {
            return PURSE_OUT_OF_RANGE;
        }
        purse = (int) after;
        return FINE;
    }

    private static int divideGifts(Hall hall, int n) {
        if (n == 0) {
            return DIVISOR_ZERO;
        }
        hall.gifts /= n;
        return FINE;
    }

    private int walkOn(int n, int walksAtWork) {
        int rest = n / 10;
        return walkTo(Math.floorMod(n, PLACES), rest == 0 ? NO_DEED : WALK_ON, rest, walksAtWork);
    }

    private static final class Hall {
        private static final int GUARD_STOPS_EACH = 3;
        private static final int MARKS = 100;

        private final int number;
        private final int kind;
        private final int fee;
        private int gifts;
        private int passes;
        private int asks;
        private int paid;
        private int inside;
        private int most;

        private Hall(int number, int kind, int fee) {
            this.number = number;
            this.kind = kind;
            this.fee = fee;
        }

        private void enter() {
            passes++;
            inside++;
            most = Math.max(most, inside);
        }

        private boolean guardIsInTheWay() {
            return kind == GUARD && passes % GUARD_STOPS_EACH == 0;
        }

        private int charge() {
            if (kind == PLAIN) {
                return fee;
            }
            int toll = fee + passes;
            return kind == GUARD ? 2 * toll : toll;
        }

        private int mark() {
            return number % MARKS;
        }

        private int fact(int what) {
            switch (what) {
                case 0: return number;
                case 1: return kind;
                case 2: return fee;
                case 3: return passes;
                case 4: return asks;
                case 5: return paid;
                case 6: return inside;
                case 7: return most;
                default: return BAD;
            }
        }
    }
}

import java.util.ArrayList;
import java.util.LinkedHashMap;
import java.util.List;
import java.util.Map;
import java.util.function.ToIntFunction;

/**
 * What each call answers, what it changes, and what it leaves as it was: all that an object tells is
 * written down before and behind one call, and must differ in the numbers that are named here and in no other.
 */
public final class ChangesTest {
    private static final int TRACE_SHOWN = 12;
    private static final int TOLD = 8;

    private static final Due due = new Due();

    public static void main(String[] args) {
        anObjectAtFirst();
        hallInAnEmptyPlace();
        hallWhereOneStands();
        shareGivesAHall();
        shareGivesNone();
        shareOfTheSame();
        parents();
        fills();
        walkWithoutADeed();
        walkThroughOneHallTwice();
        walkThatGives();
        walkThatTakesGifts();
        walkThatDivides();
        walkThatClears();
        walkWithin();
        walkThatFailsByItsDeed();
        walkThatEarns();
        walkToAMissingHall();
        walkOnARing();
        walkThatCannotPay();
        walkIntoAGuard();
        walkWithinTooDeep();
        seekThatFinds();
        seekThatFindsNone();
        looksChangeNothing();
        anotherObjectIsLeftAsItWas();
        due.end();
    }

    /**
     * Halls 0 (place 0), 1 (place 1, a toll), 2 (place 2, a guard), 3 (places 3 and 4), 4 (place 5, too dear),
     * 5 (place 8, a guard that was passed twice); 2 lies behind 1 behind 0, 4 behind 3, 6 behind itself.
     */
    private static GateHalls busy() {
        GateHalls x = new GateHalls();
        x.hall(0, 0, 10);
        x.hall(1, 1, 5);
        x.hall(2, 2, 4);
        x.hall(3, 0, 0);
        x.share(3, 4);
        x.hall(5, 0, 1000);
        x.hall(8, 2, 0);
        x.parent(2, 1);
        x.parent(1, 0);
        x.parent(4, 3);
        x.parent(6, 6);
        x.fill(506);
        x.walk(8, 0, 0);
        x.walk(8, 0, 0);
        x.walk(2, 1, 77);
        x.walk(3, 1, -9);
        x.seek(5);
        x.walk(0, 6, 3);
        return x;
    }

    private static Map<String, Integer> all(GateHalls x) {
        Map<String, Integer> all = new LinkedHashMap<>();
        for (int what = 0; what <= 5; what++) {
            all.put("count(" + what + ")", x.count(what));
        }
        for (int k = -1; k <= TRACE_SHOWN; k++) {
            all.put("trace(" + k + ")", x.trace(k));
        }
        for (int place = 0; place <= 9; place++) {
            for (int what = 0; what < TOLD; what++) {
                all.put("told(" + place + ", " + what + ")", x.told(place, what));
            }
            all.put("gifts(" + place + ")", x.gifts(place));
            int of = x.parent(place, -1);
            x.parent(place, of);
            all.put("parent of " + place, of);
        }
        return all;
    }

    /** The numbers that a call changes, and what they are then. */
    private static final class Changes {
        private final Map<String, Integer> named = new LinkedHashMap<>();

        Changes count(int what, int then) {
            named.put("count(" + what + ")", then);
            return this;
        }

        Changes told(int place, int what, int then) {
            named.put("told(" + place + ", " + what + ")", then);
            return this;
        }

        Changes hall(int place, int... facts) {
            for (int what = 0; what < TOLD; what++) {
                told(place, what, facts.length == 0 ? -1 : facts[what]);
            }
            return this;
        }

        Changes gifts(int place, int then) {
            named.put("gifts(" + place + ")", then);
            return this;
        }

        Changes parent(int place, int then) {
            named.put("parent of " + place, then);
            return this;
        }

        /** A walk from outside: its failure, the walks begun behind it, its depth and its trace. */
        Changes walk(int failure, int begun, int depth, int... trace) {
            count(3, failure);
            count(4, begun);
            count(5, depth);
            named.put("trace(-1)", trace.length);
            for (int k = 0; k <= TRACE_SHOWN; k++) {
                named.put("trace(" + k + ")", k < trace.length ? trace[k] : -1);
            }
            return this;
        }
    }

    private static Changes changes() {
        return new Changes();
    }

    private static void call(String call, ToIntFunction<GateHalls> made, int answer, Changes changes) {
        GateHalls x = busy();
        Map<String, Integer> want = all(x);
        want.putAll(changes.named);
        due.is(call, made.applyAsInt(x), answer);
        Map<String, Integer> got = all(x);
        for (String told : want.keySet()) {
            due.is("behind " + call + ": " + told, got.get(told), want.get(told));
        }
    }

    /** The state that all rows here begin with, by hand, so that a wrong one does not hide behind itself. */
    private static void anObjectAtFirst() {
        due.sentence("Terms 1 to 3: the object that the calls are made on");
        call("nothing", x -> 0, 0, changes()
            .count(0, 464).count(1, 6).count(2, 7).walk(23, 5, 1, 0, 100)
            .hall(0, 0, 0, 10, 2, 1, 20, 0, 1).gifts(0, 0).parent(0, -1)
            .hall(1, 1, 1, 5, 1, 2, 6, 0, 1).gifts(1, 0).parent(1, 0)
            .hall(2, 2, 2, 4, 1, 3, 10, 0, 1).gifts(2, 77).parent(2, 1)
            .hall(3, 3, 0, 0, 1, 6, 0, 0, 1).gifts(3, -9).parent(3, -1)
            .hall(4, 3, 0, 0, 1, 6, 0, 0, 1).gifts(4, -9).parent(4, 3)
            .hall(5, 4, 0, 1000, 0, 2, 0, 0, 0).gifts(5, 0).parent(5, -1)
            .hall(6).gifts(6, 0).parent(6, 6)
            .hall(7).gifts(7, 0).parent(7, -1)
            .hall(8, 5, 2, 0, 2, 3, 6, 0, 1).gifts(8, 0).parent(8, -1)
            .hall(9).gifts(9, 0).parent(9, -1));
    }

    private static void hallInAnEmptyPlace() {
        due.sentence("2 hall: A new HALL stands in a PLACE: its NUMBER");
        call("hall(7, 1, 9)", x -> x.hall(7, 1, 9), 6, changes()
            .count(1, 7).count(2, 8).hall(7, 6, 1, 9, 0, 0, 0, 0, 0));
        call("hall(6, 2, 0)", x -> x.hall(6, 2, 0), 6, changes()
            .count(1, 7).count(2, 8).hall(6, 6, 2, 0, 0, 0, 0, 0, 0));
    }

    private static void hallWhereOneStands() {
        due.sentence("2 hall: A new HALL stands in a PLACE: the one before stands there no more");
        call("hall(3, 2, 8)", x -> x.hall(3, 2, 8), 6, changes()
            .count(1, 7).hall(3, 6, 2, 8, 0, 0, 0, 0, 0).gifts(3, 0));
    }

    private static void shareGivesAHall() {
        due.sentence("3 share: PLACE to gets what PLACE from has: 1");
        call("share(2, 9)", x -> x.share(2, 9), 1, changes()
            .count(2, 8).hall(9, 2, 2, 4, 1, 3, 10, 0, 1).gifts(9, 77));
        call("share(2, 3)", x -> x.share(2, 3), 1, changes()
            .hall(3, 2, 2, 4, 1, 3, 10, 0, 1).gifts(3, 77));
    }

    private static void shareGivesNone() {
        due.sentence("3 share: or none: 0");
        call("share(9, 4)", x -> x.share(9, 4), 0, changes().count(2, 6).hall(4).gifts(4, 0));
        call("share(9, 7)", x -> x.share(9, 7), 0, changes());
    }

    private static void shareOfTheSame() {
        due.sentence("3 share: what it has already");
        call("share(1, 1)", x -> x.share(1, 1), 1, changes());
        call("share(3, 4)", x -> x.share(3, 4), 1, changes());
        call("share(9, 9)", x -> x.share(9, 9), 0, changes());
    }

    private static void parents() {
        due.sentence("4 parent: A PLACE gets a PARENT: what it had");
        call("parent(2, -1)", x -> x.parent(2, -1), 1, changes().parent(2, -1));
        call("parent(2, 9)", x -> x.parent(2, 9), 1, changes().parent(2, 9));
        call("parent(2, 1)", x -> x.parent(2, 1), 1, changes());
        call("parent(5, 5)", x -> x.parent(5, 5), -1, changes().parent(5, 5));
        call("parent(6, -1)", x -> x.parent(6, -1), 6, changes().parent(6, -1));
        call("parent(0, 2)", x -> x.parent(0, 2), -1, changes().parent(0, 2));
    }

    private static void fills() {
        due.sentence("5 fill: THE PURSE gets n more: THE PURSE");
        call("fill(36)", x -> x.fill(36), 500, changes().count(0, 500));
        call("fill(0)", x -> x.fill(0), 464, changes());
    }

    private static void walkWithoutADeed() {
        due.sentence("6 walk: 1; THE TRACE is empty first; DEED 0 none");
        call("walk(2, 0, 9)", x -> x.walk(2, 0, 9), 1, changes()
            .count(0, 464 - 10 - 7 - 12).walk(0, 6, 3, 0, 1, 2, 102, 101, 100)
            .told(0, 3, 3).told(0, 5, 30).told(1, 3, 2).told(1, 5, 13).told(2, 3, 2).told(2, 5, 22));
    }

    private static void walkThroughOneHallTwice() {
        due.sentence("the HALL that stands there then is PASSED INTO, and inside of it the next one");
        call("walk(4, 0, 0)", x -> x.walk(4, 0, 0), 1, changes()
            .walk(0, 6, 2, 3, 3, 103, 103)
            .told(3, 3, 3).told(3, 7, 2).told(4, 3, 3).told(4, 7, 2));
    }

    private static Changes passedThree(int failure) {
        return changes().walk(failure, 6, 1, 3, 103).told(3, 3, 2).told(4, 3, 2);
    }

    private static void walkThatGives() {
        due.sentence("DEED 1 GIFTS of that HALL are n more");
        call("walk(3, 1, 4)", x -> x.walk(3, 1, 4), 1, passedThree(0).gifts(3, -5).gifts(4, -5));
        call("walk(3, 1, 0)", x -> x.walk(3, 1, 0), 1, passedThree(0));
    }

    private static void walkThatTakesGifts() {
        due.sentence("DEED 2 THE PURSE gets GIFTS; GIFTS are 0 then");
        call("walk(3, 2, 4)", x -> x.walk(3, 2, 4), 1, passedThree(0).count(0, 455).gifts(3, 0).gifts(4, 0));
    }

    private static void walkThatDivides() {
        due.sentence("DEED 3 GIFTS by n; FAILURE 6 if n is 0");
        call("walk(3, 3, 2)", x -> x.walk(3, 3, 2), 1, passedThree(0).gifts(3, -4).gifts(4, -4));
        call("walk(3, 3, 0)", x -> x.walk(3, 3, 0), -16, passedThree(6));
    }

    private static void walkThatClears() {
        due.sentence("DEED 4 PLACE n modulo 10 has no HALL any more");
        call("walk(3, 4, 12)", x -> x.walk(3, 4, 12), 1, passedThree(0).count(2, 6).hall(2).gifts(2, 0));
        call("walk(3, 4, 9)", x -> x.walk(3, 4, 9), 1, passedThree(0));
        call("walk(3, 4, 3)", x -> x.walk(3, 4, 3), 1, passedThree(0).count(2, 6).hall(3).gifts(3, 0));
    }

    private static void walkWithin() {
        due.sentence("DEED 5 a WALK to PLACE n modulo 10, within");
        call("walk(3, 5, 1)", x -> x.walk(3, 5, 1), 1, passedThree(0)
            .count(0, 464 - 10 - 7).walk(0, 7, 3, 3, 0, 1, 101, 100, 103)
            .told(0, 3, 3).told(0, 5, 30).told(1, 3, 2).told(1, 5, 13));
        call("walk(3, 5, 7)", x -> x.walk(3, 5, 7), -11, passedThree(0).walk(1, 7, 1, 3, 103));
    }

    private static void walkThatFailsByItsDeed() {
        due.sentence("DEED 6 FAILURE 20 and n modulo 4");
        call("walk(3, 6, 2)", x -> x.walk(3, 6, 2), -32, passedThree(22));
    }

    private static void walkThatEarns() {
        due.sentence("DEED 7 THE PURSE is 1 more for each HALL");
        call("walk(3, 7, 4)", x -> x.walk(3, 7, 4), 1, passedThree(0).count(0, 465));
        call("walk(1, 7, 4)", x -> x.walk(1, 7, 4), 1, changes()
            .count(0, 464 - 10 - 7 + 2).walk(0, 6, 2, 0, 1, 101, 100)
            .told(0, 3, 3).told(0, 5, 30).told(1, 3, 2).told(1, 5, 13));
    }

    private static void walkToAMissingHall() {
        due.sentence("FAILURE 1 if there is none: nothing of it is done");
        call("walk(9, 1, 5)", x -> x.walk(9, 1, 5), -11, changes().walk(1, 6, 0));
    }

    private static void walkOnARing() {
        due.sentence("FAILURE 8 if a PLACE comes twice");
        call("walk(6, 1, 5)", x -> x.walk(6, 1, 5), -18, changes().walk(8, 6, 0));
    }

    private static void walkThatCannotPay() {
        due.sentence("FAILURE 20 if THE PURSE is less than its CHARGE");
        call("walk(5, 1, 5)", x -> x.walk(5, 1, 5), -30, changes()
            .walk(20, 6, 1, 4, 104).told(5, 3, 1).told(5, 7, 1));
    }

    private static void walkIntoAGuard() {
        due.sentence("FAILURE 21 if it is a GUARD whose PASSES are a multiple of 3");
        call("walk(8, 1, 5)", x -> x.walk(8, 1, 5), -31, changes().walk(21, 6, 1, 5, 105).told(8, 3, 3));
    }

    private static void walkWithinTooDeep() {
        due.sentence("FAILURE 2, if 3 WALKS are at work");
        call("walk(3, 5, 233)", x -> x.walk(3, 5, 233), -12, changes()
            .walk(2, 8, 3, 3, 3, 3, 103, 103, 103)
            .told(3, 3, 4).told(3, 7, 3).told(4, 3, 4).told(4, 7, 3));
    }

    private static void seekThatFinds() {
        due.sentence("7 seek: FOUND, both are left, and nothing more is asked: 10 a + b");
        call("seek(77)", x -> x.seek(77), 2, changes().told(0, 4, 2).told(1, 4, 3).told(2, 4, 4));
    }

    private static void seekThatFindsNone() {
        due.sentence("7 seek: -1: none is");
        call("seek(1)", x -> x.seek(1), -1, changes()
            .told(0, 4, 2).told(1, 4, 4).told(2, 4, 6).told(3, 4, 12).told(4, 4, 12).told(5, 4, 4).told(8, 4, 6));
    }

    private static void looksChangeNothing() {
        due.sentence("8 to 11: told, gifts, trace and count tell, and change nothing");
        call("told(2, 5)", x -> x.told(2, 5), 10, changes());
        call("gifts(2)", x -> x.gifts(2), 77, changes());
        call("trace(1)", x -> x.trace(1), 100, changes());
        call("count(3)", x -> x.count(3), 23, changes());
    }

    private static void anotherObjectIsLeftAsItWas() {
        due.sentence("1 A new object: it has halls, a purse and a trace of its own");
        List<GateHalls> others = new ArrayList<>();
        call("all that makes another busy", x -> {
            others.add(busy());
            return others.size();
        }, 1, changes());
    }
}

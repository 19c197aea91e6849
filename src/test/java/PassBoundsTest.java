import java.lang.reflect.Method;

/** Terms: the charge, passing into a hall and leaving it, at the edges that the sentences name. */
public final class PassBoundsTest {
    private static final Due due = new Due();

    public static void main(String[] args) throws ReflectiveOperationException {
        chargeOfAHall();
        chargeOfAToll();
        chargeOfAGuard();
        mostThatInsideWas();
        numbersByHundred();
        longestTrace();
        hundredAtMost();
        guardsAtMultiplesOfThree();
        onlyGuardsAreInTheWay();
        aGuardPassedThriceInOneWalk();
        theGuardComesBeforeTheCharge();
        aPurseLessThanTheCharge();
        aChargeOfNothing();
        passingFailsAndIsCounted();
        leaving();
        due.end();
    }

    /** A hall in place 0, and a purse that pays for it some times. */
    private static GateHalls with(int kind, int fee, int purse) {
        GateHalls x = new GateHalls();
        x.hall(0, kind, fee);
        for (int left = purse; left > 0; left -= 1000) {
            x.fill(Math.min(left, 1000));
        }
        return x;
    }

    private static void paidEachTime(int kind, int fee, int... charges) {
        GateHalls x = with(kind, fee, 20000);
        int paid = 0;
        for (int time = 0; time < charges.length; time++) {
            due.is("walk " + time + ", fee " + fee, x.walk(0, 0, 0), 1);
            paid += charges[time];
            due.is("walk " + time + ", fee " + fee + ": told(0, 5)", x.told(0, 5), paid);
            due.is("walk " + time + ", fee " + fee + ": count(0)", x.count(0), 20000 - paid);
        }
    }

    private static void chargeOfAHall() {
        due.sentence("THE CHARGE of a HALL: its FEE");
        paidEachTime(0, 0, 0, 0, 0, 0);
        paidEachTime(0, 1, 1, 1, 1, 1);
        paidEachTime(0, 1000, 1000, 1000, 1000, 1000);
    }

    private static void chargeOfAToll() {
        due.sentence("Of a TOLL: its FEE, and PASSES");
        paidEachTime(1, 0, 1, 2, 3, 4);
        paidEachTime(1, 1000, 1001, 1002, 1003, 1004);
    }

    private static void chargeOfAGuard() {
        due.sentence("Of a GUARD: twice what a TOLL's is");
        paidEachTime(2, 0, 2, 4);
        paidEachTime(2, 1000, 2002, 2004);
    }

    private static void mostThatInsideWas() {
        due.sentence("INSIDE (0), the MOST that INSIDE was (0)");
        GateHalls x = with(0, 0, 0);
        due.is("told(0, 7) at first", x.told(0, 7), 0);
        x.walk(0, 5, 0);
        due.is("told(0, 6)", x.told(0, 6), 0);
        due.is("told(0, 7)", x.told(0, 7), 2);
        x.walk(0, 0, 0);
        due.is("told(0, 7) stays", x.told(0, 7), 2);
        x.walk(0, 5, 100);
        due.is("told(0, 7) with 3 walks at work", x.told(0, 7), 3);
    }

    private static void numbersByHundred() {
        due.sentence("of NUMBERS the rest by 100; 100 and its NUMBER are left");
        GateHalls x = new GateHalls();
        for (int number = 0; number <= 300; number++) {
            x.hall(0, 0, 0);
            int rest = number < 100 ? number : number < 200 ? number - 100 : number < 300 ? number - 200 : 0;
            if (rest <= 1 || rest >= 98) {
                x.walk(0, 0, 0);
                due.is("told(0, 0)", x.told(0, 0), number);
                due.trace(x, "walk to hall " + number, rest, 100 + rest);
            }
        }
    }

    private static GateHalls tenInARow() {
        GateHalls x = new GateHalls();
        for (int place = 0; place <= 9; place++) {
            x.hall(place, 0, 0);
            x.parent(place, place - 1);
        }
        return x;
    }

    private static void longestTrace() {
        due.sentence("its NUMBER is left in THE TRACE: nothing of the longest one is lost");
        GateHalls x = tenInARow();
        due.is("walk(9, 5, 999)", x.walk(9, 5, 999), -12);
        due.is("trace(-1)", x.trace(-1), 60);
        for (int k = 0; k < 30; k++) {
            due.is("trace(" + k + ")", x.trace(k), k % 10);
            due.is("trace(" + (59 - k) + ")", x.trace(59 - k), 100 + k % 10);
        }
        due.is("trace(60)", x.trace(60), -1);
    }

    /** No walk leaves more than 60 numbers, so the bound itself is only seen from inside of the class. */
    private static void hundredAtMost() throws ReflectiveOperationException {
        due.sentence("100 at most; more are lost");
        GateHalls x = new GateHalls();
        Method leaveMark = GateHalls.class.getDeclaredMethod("leaveMark", int.class);
        leaveMark.setAccessible(true);
        for (int mark = 0; mark < 102; mark++) {
            leaveMark.invoke(x, mark);
        }
        due.is("trace(-1)", x.trace(-1), 100);
        due.is("trace(0)", x.trace(0), 0);
        due.is("trace(99)", x.trace(99), 99);
        due.is("trace(100)", x.trace(100), -1);
        due.is("trace(101)", x.trace(101), -1);
    }

    private static void guardsAtMultiplesOfThree() {
        due.sentence("FAILURE 21 if it is a GUARD whose PASSES are a multiple of 3");
        GateHalls x = with(2, 0, 1000);
        for (int passes = 1; passes <= 12; passes++) {
            boolean stopped = passes == 3 || passes == 6 || passes == 9 || passes == 12;
            due.is("walk with passes " + passes, x.walk(0, 0, 0), stopped ? -31 : 1);
            due.is("told(0, 3)", x.told(0, 3), passes);
        }
    }

    private static void onlyGuardsAreInTheWay() {
        due.sentence("FAILURE 21 if it is a GUARD: not a HALL, not a TOLL");
        for (int kind = 0; kind <= 1; kind++) {
            GateHalls x = with(kind, 0, 1000);
            for (int passes = 1; passes <= 6; passes++) {
                due.is("kind " + kind + ", passes " + passes, x.walk(0, 0, 0), 1);
            }
        }
    }

    private static void aGuardPassedThriceInOneWalk() {
        due.sentence("FAILURE 21: a GUARD that stands in several PLACES of one PATH");
        GateHalls x = with(2, 1, 1000);
        x.share(0, 1);
        x.share(0, 2);
        x.parent(1, 0);
        x.parent(2, 1);
        due.is("walk(2, 1, 5)", x.walk(2, 1, 5), -31);
        due.trace(x, "walk(2, 1, 5)", 0, 0, 0, 100, 100, 100);
        due.is("told(0, 3)", x.told(0, 3), 3);
        due.is("told(0, 5)", x.told(0, 5), 4 + 6);
        due.is("told(0, 6)", x.told(0, 6), 0);
        due.is("told(0, 7)", x.told(0, 7), 3);
        due.is("gifts(0)", x.gifts(0), 0);
        due.is("count(5)", x.count(5), 3);
    }

    private static void theGuardComesBeforeTheCharge() {
        due.sentence("then FAILURE 21 ..; then FAILURE 20");
        GateHalls x = with(2, 500, 0);
        int[] want = {-30, -30, -31, -30, -30, -31};
        for (int time = 0; time < want.length; time++) {
            due.is("walk " + time, x.walk(0, 0, 0), want[time]);
        }
        GateHalls y = with(2, 0, 1000);
        y.walk(0, 0, 0);
        y.walk(0, 0, 0);
        int before = y.count(0);
        due.is("walk of the third pass", y.walk(0, 0, 0), -31);
        due.is("count(0): nothing is paid", y.count(0), before);
        due.is("told(0, 5)", y.told(0, 5), 2 + 4);
    }

    private static void aPurseLessThanTheCharge() {
        due.sentence("FAILURE 20 if THE PURSE is less than its CHARGE, else THE PURSE is that less, PAID that more");
        int[] charges = {7, 8, 16};
        for (int kind = 0; kind <= 2; kind++) {
            int charge = charges[kind];
            GateHalls less = with(kind, 7, charge - 1);
            due.is("kind " + kind + ", purse " + (charge - 1), less.walk(0, 0, 0), -30);
            due.is("count(0)", less.count(0), charge - 1);
            due.is("told(0, 5)", less.told(0, 5), 0);
            GateHalls just = with(kind, 7, charge);
            due.is("kind " + kind + ", purse " + charge, just.walk(0, 0, 0), 1);
            due.is("count(0)", just.count(0), 0);
            due.is("told(0, 5)", just.told(0, 5), charge);
            GateHalls more = with(kind, 7, charge + 1);
            due.is("kind " + kind + ", purse " + (charge + 1), more.walk(0, 0, 0), 1);
            due.is("count(0)", more.count(0), 1);
        }
    }

    private static void aChargeOfNothing() {
        due.sentence("FAILURE 20: THE PURSE of 0 is not less than a CHARGE of 0");
        GateHalls x = with(0, 0, 0);
        due.is("walk(0, 0, 0)", x.walk(0, 0, 0), 1);
        due.is("walk(0, 0, 0) of a toll", with(1, 0, 0).walk(0, 0, 0), -30);
        due.is("walk(0, 0, 0) of a guard", with(2, 0, 1).walk(0, 0, 0), -30);
    }

    private static void passingFailsAndIsCounted() {
        due.sentence("PASSES, INSIDE are 1 more, its NUMBER is left in THE TRACE; then FAILURE ..");
        GateHalls x = with(1, 3, 5);
        due.is("walk(0, 0, 0) for 4", x.walk(0, 0, 0), 1);
        due.is("walk(0, 0, 0) for 5", x.walk(0, 0, 0), -30);
        due.trace(x, "walk(0, 0, 0)", 0, 100);
        due.is("told(0, 3)", x.told(0, 3), 2);
        due.is("told(0, 6)", x.told(0, 6), 0);
        x.fill(5);
        // The pass that failed makes the next one dearer.
        due.is("walk(0, 0, 0) for 6", x.walk(0, 0, 0), 1);
        due.is("count(0)", x.count(0), 0);
        due.is("told(0, 5)", x.told(0, 5), 4 + 6);
    }

    private static void leaving() {
        due.sentence("TO LEAVE it: INSIDE is 1 less");
        int[][] walks = {{9, 0, 0}, {9, 5, 99}, {9, 5, 999}, {9, 6, 0}, {9, 3, 0}, {9, 4, 5}, {9, 0, 0}};
        GateHalls x = tenInARow();
        x.share(5, 0);
        for (int[] w : walks) {
            x.walk(w[0], w[1], w[2]);
            String after = "walk(" + w[0] + ", " + w[1] + ", " + w[2] + ")";
            for (int place = 0; place <= 9; place++) {
                due.is(after + ": told(" + place + ", 6)", x.told(place, 6), x.told(place, 0) == -1 ? -1 : 0);
            }
        }
    }
}

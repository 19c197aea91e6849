/** Promise 6: walk; the charges, the guards, and what a failure leaves behind. */
public final class WalkChargeTest {
    public static void main(String[] args) {
        Due due = new Due();
        chargesOfTheKinds(due);
        aPurseThatIsJustEnough(due);
        guardsStopEachThird(due);
        aGuardStopsBeforeThePurseIsAsked(due);
        whatWasDoneStaysDone(due);
        due.end();
    }

    private static void chargesOfTheKinds(Due due) {
        int[][] paid = {{10, 20}, {11, 23}, {22, 46}};
        for (int kind = 0; kind <= 2; kind++) {
            GateHalls x = new GateHalls();
            x.hall(0, kind, 10);
            x.fill(1000);
            for (int time = 0; time < 2; time++) {
                due.is("kind " + kind + ": walk(0, 0, 0)", x.walk(0, 0, 0), 1);
                due.is("kind " + kind + ": told(0, 5)", x.told(0, 5), paid[kind][time]);
                due.is("kind " + kind + ": count(0)", x.count(0), 1000 - paid[kind][time]);
            }
        }
    }

    private static void aPurseThatIsJustEnough(Due due) {
        GateHalls x = new GateHalls();
        x.hall(0, 1, 4);
        x.fill(4);
        due.is("walk(0, 1, 3)", x.walk(0, 1, 3), -30);
        due.trace(x, "walk(0, 1, 3)", 0, 100);
        due.is("count(0)", x.count(0), 4);
        due.is("count(3)", x.count(3), 20);
        due.is("count(5)", x.count(5), 1);
        due.is("gifts(0)", x.gifts(0), 0);
        due.is("told(0, 3)", x.told(0, 3), 1);
        due.is("told(0, 5)", x.told(0, 5), 0);
        due.is("told(0, 6)", x.told(0, 6), 0);
        due.is("told(0, 7)", x.told(0, 7), 1);
        x.fill(2);
        due.is("walk(0, 1, 3)", x.walk(0, 1, 3), 1);
        due.is("count(0)", x.count(0), 0);
        due.is("count(3)", x.count(3), 0);
    }

    private static void guardsStopEachThird(Due due) {
        GateHalls x = new GateHalls();
        x.hall(0, 2, 0);
        x.fill(1000);
        int[] want = {1, 1, -31, 1, 1, -31, 1};
        for (int time = 0; time < want.length; time++) {
            due.is("walk " + time, x.walk(0, 0, 0), want[time]);
        }
        due.is("told(0, 3)", x.told(0, 3), 7);
        due.is("told(0, 5)", x.told(0, 5), 2 * (1 + 2 + 4 + 5 + 7));
        due.is("told(0, 6)", x.told(0, 6), 0);
        GateHalls y = new GateHalls();
        y.hall(0, 1, 0);
        y.fill(100);
        for (int time = 0; time < 4; time++) {
            due.is("toll walk " + time, y.walk(0, 0, 0), 1);
        }
    }

    private static void aGuardStopsBeforeThePurseIsAsked(Due due) {
        GateHalls x = new GateHalls();
        x.hall(0, 2, 1);
        due.is("walk 1", x.walk(0, 0, 0), -30);
        due.is("walk 2", x.walk(0, 0, 0), -30);
        due.is("walk 3", x.walk(0, 0, 0), -31);
        due.is("walk 4", x.walk(0, 0, 0), -30);
    }

    private static void whatWasDoneStaysDone(Due due) {
        GateHalls x = new GateHalls();
        x.hall(0, 0, 3);
        x.hall(1, 0, 100);
        x.hall(2, 0, 0);
        x.parent(2, 1);
        x.parent(1, 0);
        x.fill(50);
        due.is("walk(2, 0, 0)", x.walk(2, 0, 0), -30);
        due.trace(x, "walk(2, 0, 0)", 0, 1, 101, 100);
        due.is("count(0)", x.count(0), 47);
        due.is("told(0, 5)", x.told(0, 5), 3);
        due.is("told(1, 3)", x.told(1, 3), 1);
        due.is("told(1, 5)", x.told(1, 5), 0);
        due.is("told(2, 3)", x.told(2, 3), 0);
        for (int place = 0; place < 3; place++) {
            due.is("told(" + place + ", 6)", x.told(place, 6), 0);
        }
    }
}

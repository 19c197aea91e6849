/** Promise 1: a new object has no halls and no parents, and its numbers are those told at first. */
public final class NewObjectTest {
    public static void main(String[] args) {
        Due due = new Due();
        GateHalls x = new GateHalls();
        for (int what = 0; what <= 5; what++) {
            due.is("count(" + what + ")", x.count(what), 0);
        }
        due.trace(x, "new");
        for (int place = 0; place < 10; place++) {
            due.is("told(" + place + ", 0)", x.told(place, 0), -1);
            due.is("gifts(" + place + ")", x.gifts(place), 0);
            due.is("parent(" + place + ", -1)", x.parent(place, -1), -1);
        }
        due.is("seek(0)", x.seek(0), -1);
        due.is("walk(0, 0, 0)", x.walk(0, 0, 0), -11);
        objectsAreApart(due);
        due.end();
    }

    private static void objectsAreApart(Due due) {
        GateHalls x = new GateHalls();
        GateHalls y = new GateHalls();
        x.hall(0, 0, 0);
        x.fill(5);
        x.parent(1, 0);
        x.walk(0, 0, 0);
        due.is("y.count(0)", y.count(0), 0);
        due.is("y.count(1)", y.count(1), 0);
        due.is("y.count(4)", y.count(4), 0);
        due.is("y.trace(-1)", y.trace(-1), 0);
        due.is("y.told(0, 0)", y.told(0, 0), -1);
        due.is("y.parent(1, -1)", y.parent(1, -1), -1);
        due.is("y.hall(0, 0, 0)", y.hall(0, 0, 0), 0);
    }
}

/** Promise 4: parent. */
public final class ParentTest {
    public static void main(String[] args) {
        Due due = new Due();
        GateHalls x = new GateHalls();
        due.is("parent(0, 9)", x.parent(0, 9), -1);
        due.is("parent(0, 0)", x.parent(0, 0), 9);
        due.is("parent(0, -1)", x.parent(0, -1), 0);
        due.is("parent(0, 5)", x.parent(0, 5), -1);
        due.is("parent(9, 0)", x.parent(9, 0), -1);
        int[] wrong = {10, -2, Integer.MIN_VALUE, Integer.MAX_VALUE};
        for (int w : wrong) {
            due.is("parent(" + w + ", 0)", x.parent(w, 0), -2);
            due.is("parent(0, " + w + ")", x.parent(0, w), -2);
        }
        due.is("parent(-1, 0)", x.parent(-1, 0), -2);
        due.is("parent(-1, -1)", x.parent(-1, -1), -2);
        due.is("parent(0, -1) after wrong ones", x.parent(0, -1), 5);
        due.is("parent(9, -1) after wrong ones", x.parent(9, -1), 0);
        due.end();
    }
}

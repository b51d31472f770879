/** Promise 1: a new object. */
public final class StartTest {
    public static void main(String[] args) {
        Check c = new Check("StartTest");
        BoxSearch x = new BoxSearch();
        int[] counts = {0, 99, 0, 0, 0, 0};
        for (int what = 0; what < 6; what++) {
            c.due("count(" + what + ")", x.count(what), counts[what]);
        }
        for (int d = 0; d < 8; d++) {
            c.due("weight(" + d + ")", x.weight(d), -11);
        }
        c.due("box(0, 0)", x.box(0, 0), -1);
        c.due("at(0)", x.at(0), 0);
        c.due("undo()", x.undo(), -3);
        c.due("restore()", x.restore(), -3);
        c.due("mass()", x.mass(), 1);
        c.due("best()", x.best(), 0);
        c.due("bestStreet()", x.bestStreet(), -4);
        c.due("bell(5)", x.bell(5), 99);
        c.due("another one has its own bell", new BoxSearch().count(1), 99);
        c.end();
    }
}

/** Promise 1: a new object. */
public final class StartTest {
    public static void main(String[] args) {
        Check c = new Check("StartTest");
        BoxSearch x = new BoxSearch();
        c.due("count(0)", x.count(0), 0);
        c.due("count(1)", x.count(1), 99);
        c.end();
    }
}

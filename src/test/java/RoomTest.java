import java.lang.management.ManagementFactory;

/** The dearest runs of 512 calls keep far within the room and the time that there is. */
public final class RoomTest {
    private static final Check CHECK = new Check("RoomTest");
    /** A field or element takes up to 8 bytes of 7.3 million; half of that is the limit here. */
    private static final long MOST_BYTES = 7300000L * 8 / 2;

    private static final String[] PEEPS = {
        "b31 1 990/20 500/25 300/25 10/30?7;b43 1 991/25 501/25 301/25 11/25?5;b37 2 992/22 502/25 302/25 12/28?6;",
        "b41 1 993/20 503/25 303/25 13/30?7;b39 3 994/25 504/25 304/25 14/25?5;"};
    private static final String[] KIN = {
        "b31 1 990/20 500/25 300/25 10/30;b43 1 991/25 501/25 301/25 11/25>0 25 25 25 25;",
        "b37 2 992/22 502/25 302/25 12/28>1 10 20 30 40;b41 1 993/20 503/25 303/25 13/30>2 40 30 20 10;",
        "b39 3 994/25 504/25 304/25 14/25>3 20 20 30 30;"};

    public static void main(String[] args) {
        measure("peeps", PEEPS);
        measure("kin", KIN);
        manyNewOnes();
        CHECK.end();
    }

    private static void measure(String name, String[] texts) {
        long bytes = allocated();
        BoxSearch x = Check.with(texts);
        for (int turn = 0; turn < 40; turn++) {
            long start = System.nanoTime();
            x.price(turn % 5, turn);
            x.bell(50 + turn);
            x.best();
            x.loss();
            x.breach();
            x.likely(turn % 5, 1);
            x.edge(turn % 5);
            x.setPrice(turn % 5);
            x.bestStreet();
            x.run(0, turn);
            x.image();
            x.restore();
            x.keep(turn % 8, 1, turn % 5);
            x.toss(turn % 8);
            x.row(turn % 8, 0, 120);
            x.text(turn % 8);
            long millis = (System.nanoTime() - start) / 1000000;
            CHECK.due(name + ", turn " + turn + " in " + millis + " ms", millis < 20000);
        }
        long used = allocated() - bytes;
        System.out.println("RoomTest: " + name + " took " + used + " bytes");
        CHECK.due(name + ": bytes " + used, used < MOST_BYTES);
    }

    private static void manyNewOnes() {
        long bytes = allocated();
        for (int k = 0; k < 512; k++) {
            BoxSearch x = new BoxSearch();
            CHECK.due("best()", x.best(), 0);
        }
        long used = allocated() - bytes;
        System.out.println("RoomTest: 512 new objects took " + used + " bytes");
        CHECK.due("512 new objects: bytes " + used, used < MOST_BYTES);
    }

    private static long allocated() {
        com.sun.management.ThreadMXBean threads =
            (com.sun.management.ThreadMXBean) ManagementFactory.getThreadMXBean();
        return threads.getThreadAllocatedBytes(Thread.currentThread().getId());
    }
}

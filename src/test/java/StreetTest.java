/** Promises 24 to 26: streets and runs. */
public final class StreetTest {
    private static final long REFUSED = -4611686018427387904L;
    private static final Check CHECK = new Check("StreetTest");

    public static void main(String[] args) {
        streets();
        noPeepsNoBlinds();
        refusals();
        bestStreets();
        runs();
        runsWithPeeps();
        runsWithBlinds();
        CHECK.end();
    }

    private static void due(String call, long got, long want) {
        CHECK.due(call, got, want);
    }

    private static void streets() {
        BoxSearch x = Check.with("b10 2 90/50 20/50;b5 2 40/100;b0 1 50/100<1;");
        due("none", Check.street(x), 0);
        due("0 alone", Check.street(x, 0), 45L * 1000000);
        due("1 alone", Check.street(x, 1), 35L * 1000000);
        due("2 alone is passed by", Check.street(x, 2), 0);
        due("0 1: 90, or 40 less 5", Check.street(x, 0, 1), (-100L + 450 + 175) * 100000);
        due("1 0: opening 0 would be 50 in the mean", Check.street(x, 1, 0), (-50L - 100 + 450 + 200) * 100000);
        due("1 2", Check.street(x, 1, 2), 45L * 1000000);
        due("2 1", Check.street(x, 2, 1), 35L * 1000000);
        due("0 1 2", Check.street(x, 0, 1, 2), (-100L + 450 + 225) * 100000);
        x.open(0, 1);
        due("from the first place, wherever one is", Check.street(x, 0), 45L * 1000000);
        x.bell(3);
        due("0 1 with the bell", Check.street(x, 0, 1), 45L * 1000000);
        due("nothing of a new one", Check.street(new BoxSearch()), 0);
        BoxSearch y = Check.with("b1 1 60/50 20/50;b1 0 9/50 8/50>0 100 0;");
        due("1 0: 58, or 38", Check.street(y, 1, 0), (-1 + 59 / 2) * 10000 + 5000 + 39 * 5000);
        due("0 1", Check.street(y, 0, 1), 39 * 10000);
        BoxSearch z = Check.with("b0 3 20/100;b0 1 50/100@3;");
        due("0 1: passed by, or gone", Check.street(z, 0, 1), 50 * 10000);
        due("1 0", Check.street(z, 1, 0), 50 * 10000);
    }

    private static void noPeepsNoBlinds() {
        BoxSearch x = Check.with("b30 1 90/50 10/50!;b20 1 50/50 0/50?1;");
        due("0: not taken shut", Check.street(x, 0), 20 * 10000);
        due("1: not peeped at", Check.street(x, 1), 5 * 10000);
    }

    private static void refusals() {
        BoxSearch x = Check.with("b10 2 90/50 20/50;b5 2 40/100;");
        due("a box that isn't there", Check.street(x, 0, 2), REFUSED);
        due("below 0", Check.street(x, -1), REFUSED);
        due("twice", Check.street(x, 0, 1, 0), REFUSED);
        due("street(-1)", x.street(-1), REFUSED);
        due("street(8)", x.street(8), REFUSED);
        due("street(0) of nothing", x.street(0), REFUSED);
        x.keep(0, 1, 0);
        due("street(0) of a box", x.street(0), REFUSED);
        x.row(0, 1, 1);
        due("street(0) of shorts", x.street(0), REFUSED);
        x.row(0, 0, 120);
        due("street(0) of many zeros", x.street(0), REFUSED);
        x.row(0, 0, 1);
        due("street(0) of one zero", x.street(0), 45 * 10000);
    }

    private static void bestStreets() {
        due("of none", new BoxSearch().bestStreet(), -4);
        due("of one", Check.with("b1 1 9/100;").bestStreet(), 0);
        // All orders are as good: the first by numbers.
        BoxSearch same = Check.with("b9 1 9/100;b9 1 9/100;b9 1 9/100;b9 1 9/100;b9 1 9/100;");
        due("of five that are alike", same.bestStreet(), 1 * 8 + 2 * 64 + 3 * 512 + 4 * 4096);
        // Where nothing stands between them, the greatest number first.
        BoxSearch x = Check.with("b1 1 10/100;b1 1 99/50 0/50;b1 1 60/50 0/50;");
        due("by numbers 97, 58, 9", x.bestStreet(), 1 + 2 * 8 + 0 * 64);
        x.open(0, 0);
        due("wherever one is", x.bestStreet(), 1 + 2 * 8);
        // 2 must tell of 0 ahead of it, 1 is worth nothing: 1 2 0 and 2 0 1 and 2 1 0 are as good.
        BoxSearch k = Check.with("b20 1 100/50 0/50;b9 1 1/100;b0 0 1/50 0/50>0 100 0;");
        due("2 0 1 is as good as 1 2 0", Check.street(k, 2, 0, 1), Check.street(k, 1, 2, 0));
        due("0 2 1 is not", Check.street(k, 0, 2, 1) < Check.street(k, 1, 2, 0) ? 1 : 0, 1);
        due("of several the first by numbers", k.bestStreet(), 1 + 2 * 8 + 0 * 64);
        // Rivals first.
        BoxSearch y = Check.with("b1 3 60/50 0/50;b1 2 50/50 0/50@1;");
        due("the rival ahead", y.bestStreet(), 1);
        due("by its mean", Check.street(y, 1, 0) > Check.street(y, 0, 1) ? 1 : 0, 1);
    }

    /** Seed 0 draws 12345, so 0; the next lots are reckoned here anew. */
    private static int lot(int seed, int turn, int together) {
        int z = seed;
        for (int k = 0; k <= turn; k++) {
            z = z * 1103515245 + 12345;
        }
        return (z & 0x7fffffff) / 65536 % together;
    }

    private static void runs() {
        due("of nothing", new BoxSearch().run(0, 3), 0);
        BoxSearch x = Check.with("b10 1 90/30 50/30 20/40;");
        for (int z = -40; z < 40; z++) {
            int lot = lot(z * 7777777, 0, 100);
            int want = (lot < 30 ? 90 : lot < 60 ? 50 : 20) - 10;
            due("run(0, " + z * 7777777 + ")", x.run(0, z * 7777777), want);
            due("run(1, " + z * 7777777 + ")", x.run(1, z * 7777777), want);
        }
        x.open(0, 2);
        due("from the first place", x.run(0, 0), 80);
        due("the place stays", x.at(0), 4);
        int thrown = 0;
        for (int what : new int[] {-1, 2, 9}) {
            try {
                x.run(what, 1);
            } catch (IllegalArgumentException e) {
                thrown++;
            }
        }
        due("what is thrown", thrown, 3);
    }

    private static void runsWithPeeps() {
        BoxSearch x = Check.with("b10 1 90/30 20/40 15/30?1;");
        due("best()", x.best(), 10);
        x.price(0, 14);
        due("best() for 14", x.best(), 10);
        x.price(0, 25);
        due("best() for 25", x.best(), 20);
        for (int z = 0; z < 60; z++) {
            boolean good = lot(z * 31, 0, 100) < 30;
            // When not, both 20 and 15 are below the price: one stops.
            due("run(0, " + z * 31 + ")", x.run(0, z * 31), good ? 90 - 25 - 1 : -1);
        }
        BoxSearch y = Check.with("b60 1 200/30 90/30 0/40?1;b30 1 65/100;");
        y.bell(2);
        int seen = 0;
        for (int z = 0; z < 200; z++) {
            long got = y.run(0, z * 977);
            boolean good = lot(z * 977, 0, 100) < 30;
            seen |= good ? 1 : 2;
            due("run(0, " + z * 977 + ") with another", got, good ? 200 - 60 - 1 : 65 - 30 - 1);
        }
        due("both were seen", seen, 3);
        // Not good, and opened all the same when the other one is empty: then its lot is taken modulo 70.
        BoxSearch v = Check.with("b20 1 90/30 40/35 10/35?0;b1 1 60/50 0/50;");
        due("best() of v", v.best(), 20);
        v.peep(0, false);
        due("best() of v when not good", v.best(), 11);
        v.open(1, 1);
        due("best() of v when empty", v.best(), 10);
        for (int z = 0; z < 100; z++) {
            boolean good = lot(z * 53, 0, 100) < 30;
            boolean full = lot(z * 53, 1, 100) < 50;
            int last = lot(z * 53, 2, 70) < 35 ? 40 : 10;
            due("run(0, " + z * 53 + ") of v", v.run(0, z * 53), good ? 70 : full ? 59 : last - 21);
        }
    }

    private static void runsWithBlinds() {
        BoxSearch x = Check.with("b40 1 90/50 30/50!;");
        for (int z = 0; z < 60; z++) {
            due("run(0, " + z * 53 + ")", x.run(0, z * 53), lot(z * 53, 0, 100) < 50 ? 90 : 30);
        }
    }
}

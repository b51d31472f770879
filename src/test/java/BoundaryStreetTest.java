/** Promises 24 to 26 and the words on streets and runs: a test for each sentence that names a boundary. */
public final class BoundaryStreetTest {
    private static final long REFUSED = -4611686018427387904L;
    private static final Check CHECK = new Check("BoundaryStreetTest");

    public static void main(String[] args) {
        eachOnceSomePerhapsNot();
        asManyPlacesAsThereCanBe();
        othersAheadOfIt();
        passedBy();
        openOrStopOrPass();
        noPeepsNoBlinds();
        fromTheFirstPlace();
        streetRefusals();
        bestStreetDigits();
        bestStreetTies();
        noBoxes();
        seedsWrapAround();
        belowTheChance();
        drawnByOtherChances();
        moduloOfPeeped();
        goodOnes();
        blindsAreDrawn();
        eachActDraws();
        runsWithoutActs();
        runRefusals();
        CHECK.end();
    }

    private static void says(String words) {
        CHECK.says(words);
    }

    private static void due(String call, long got, long want) {
        CHECK.due(call, got, want);
    }

    private static void eachOnceSomePerhapsNot() {
        says("each once, some perhaps not");
        BoxSearch x = Check.with("b1 1 9/100;b1 1 19/100;b1 1 29/100;b1 1 39/100;b1 1 49/100;");
        due("none", Check.street(x), 0);
        for (int b = 0; b < 5; b++) {
            due(b + " alone", Check.street(x, b), (10 * b + 8) * 10000000000L);
        }
        due("all", Check.street(x, 0, 1, 2, 3, 4), 48 * 10000000000L);
        due("all, the other way", Check.street(x, 4, 3, 2, 1, 0), 48 * 10000000000L);
        due("one twice", Check.street(x, 2, 2), REFUSED);
        due("the first again as the last", Check.street(x, 0, 1, 2, 3, 4, 0), REFUSED);
        due("more than there are", Check.street(x, 0, 1, 2, 3, 4, 5), REFUSED);
        due("none of a new object", Check.street(new BoxSearch()), 0);
        due("one of a new object", Check.street(new BoxSearch(), 0), REFUSED);
    }

    /** Four kin: as many places as a street can have. Each box is free: the greatest of five is taken. */
    private static void asManyPlacesAsThereCanBe() {
        says("BOXES in an order told");
        BoxSearch x = Check.with("b0 0 9/50 1/50;b0 0 9/50 1/50>0 50 50;b0 0 9/50 1/50>1 50 50;",
            "b0 0 9/50 1/50>2 50 50;b0 0 9/50 1/50>3 50 50;");
        due("0 1 2 3 4: 9 but for one of 32", Check.street(x, 0, 1, 2, 3, 4), 87500000000L);
        due("4 3 2 1 0", Check.street(x, 4, 3, 2, 1, 0), 87500000000L);
        due("2 4 0 3 1", Check.street(x, 2, 4, 0, 3, 1), 87500000000L);
        due("4 3", Check.street(x, 4, 3), 70000000000L);
        due("bestStreet()", x.bestStreet(), 8 + 2 * 64 + 3 * 512 + 4 * 4096);
        // Peeps have more places, but not on a street.
        BoxSearch y = Check.with("b0 0 9/50 1/50?0;".repeat(5));
        due("0 1 2 3 4 of peeps", Check.street(y, 0, 1, 2, 3, 4), 87500000000L);
        due("4 3 2 1 0 of peeps", Check.street(y, 4, 3, 2, 1, 0), 87500000000L);
        due("bestStreet() of peeps", y.bestStreet(), 8 + 2 * 64 + 3 * 512 + 4 * 4096);
    }

    /** A street of other boxes, or of fewer, told ahead must not be seen in one behind. */
    private static void othersAheadOfIt() {
        says("MEAN of the best");
        BoxSearch x = new BoxSearch();
        x.image();
        for (int round = 0; round < 3; round++) {
            Check.tell(x, "b0 0 99/50 98/50?1;b0 0 97/50 0/50!;b0 0 95/50 94/50>1 50 50;b0 0 93/50 0/50>2 50 50;");
            due("of four", Check.street(x, 3, 2, 1, 0), 9850000000L);
            due("the last of four", Check.street(x, 3), 4650000000L);
            due("the second of four", Check.street(x, 1), 4850000000L);
            x.restore();
            due("of none", Check.street(x), 0);
            Check.tell(x, "b1 0 9/50 1/50;b1 0 8/100;");
            due("of two", Check.street(x, 0, 1), (-100 + 50 * 9 + 50 * 7) * 100);
            due("the best of two", x.bestStreet(), 8);
            x.restore();
            Check.tell(x, "b3 0 9/100;");
            due("of one", Check.street(x, 0), 600);
            due("of none of one", Check.street(x), 0);
            x.restore();
        }
    }

    private static void passedBy() {
        says("a BOX that MAY not be opened as it is its turn is passed by");
        BoxSearch x = Check.with("b0 1 5/100;b0 1 90/100<0;b0 1 80/100@1;l2;");
        due("1 ahead of 0", Check.street(x, 1, 0), 5 * 1000000);
        due("0 ahead of 1", Check.street(x, 0, 1), 90 * 1000000);
        due("the rival ahead", Check.street(x, 2, 0), 80 * 1000000);
        due("the rival behind: 0 may be passed by", Check.street(x, 0, 2), 80 * 1000000);
        // With one hour for 0 none is left for 1.
        x.bell(1);
        due("0 1 at bell 1", Check.street(x, 0, 1), 5 * 1000000);
        x.bell(0);
        due("0 1 at bell 0", Check.street(x, 0, 1), 0);
    }

    private static void openOrStopOrPass() {
        says("one may open the next, or stop, or pass it by");
        due("one that is too dear is passed by", Check.street(Check.with("b9 1 9/100;b9 1 8/100;b1 1 9/100;"), 0, 1, 2),
            8 * 1000000);
        due("all are too dear", Check.street(Check.with("b9 1 9/100;b9 1 8/100;"), 0, 1), 0);
        // 90, and one stops; or 0, and one goes on: half of 90 and half of 7, less 1.
        due("stopping by what it shows", Check.street(Check.with("b1 1 90/50 0/50;b2 1 9/100;"), 0, 1), 475 * 1000);
    }

    private static void noPeepsNoBlinds() {
        says("no peeping, no BLINDS");
        BoxSearch x = Check.with("b5 1 90/10 0/90?0;b9 1 9/100!;b2 1 9/100!;");
        due("the peep, not worth it unseen", x.best() == 20 ? Check.street(x, 0) : -1, 4 * 1000000);
        due("a blind for 9", Check.street(x, 1), 0);
        due("a blind may be opened", Check.street(x, 2), 7 * 1000000);
    }

    private static void fromTheFirstPlace() {
        says("MEAN of the best from the first PLACE");
        BoxSearch x = Check.with("b1 1 90/50 0/50;b2 1 9/100;");
        long before = Check.street(x, 0, 1);
        int order = x.bestStreet();
        x.open(1, 0);
        x.open(0, 0);
        due("street wherever one is", Check.street(x, 0, 1), before);
        due("bestStreet wherever one is", x.bestStreet(), order);
        due("the place stays", x.at(0), 3 + 3 * 5);
    }

    private static void streetRefusals() {
        says("(Refused: not such; one that is no BOX, or twice.)");
        BoxSearch x = Check.with("b1 1 9/100;b1 1 19/100;");
        for (int d : new int[] {-1, 8, Integer.MIN_VALUE, Integer.MAX_VALUE}) {
            due("street(" + d + ")", x.street(d), REFUSED);
        }
        due("street(0) of nothing", x.street(0), REFUSED);
        x.keep(0, 1, 0);
        due("street(0) of a box", x.street(0), REFUSED);
        for (int sort = 1; sort < 3; sort++) {
            x.row(0, sort, 1);
            due("street(0) of sort " + sort, x.street(0), REFUSED);
            x.row(0, sort, 0);
            due("street(0) of sort " + sort + ", empty", x.street(0), REFUSED);
        }
        due("a box that isn't there", Check.street(x, 2), REFUSED);
        due("the last box", Check.street(x, 1), 18 * 10000);
        due("below 0", Check.street(x, -1), REFUSED);
        due("a great one", Check.street(x, 127), REFUSED);
        due("the least byte", Check.street(x, -128), REFUSED);
        due("32 and box: no such one", Check.street(x, 32, 33), REFUSED);
        due("256 keeps its lowest bits: box 0", Check.street(x, 256), 8 * 10000);
        due("-255 keeps its lowest bits: box 1", Check.street(x, -255), 18 * 10000);
        due("wrong at the end", Check.street(x, 0, 1, 2), REFUSED);
        x.row(0, 0, 120);
        due("120 zeros", x.street(0), REFUSED);
    }

    private static void bestStreetDigits() {
        says("as digits to the base 8, the first BOX the lowest");
        due("of one", Check.with("b1 1 9/100;").bestStreet(), 0);
        due("of two", Check.with("b1 1 50/50 0/50;b1 1 90/50 0/50;").bestStreet(), 1);
        BoxSearch x = Check.with("b1 1 50/50 0/50;b1 1 60/50 0/50;b1 1 70/50 0/50;b1 1 80/50 0/50;",
            "b1 1 90/50 0/50;");
        due("4 3 2 1 0", x.bestStreet(), 4 + 3 * 8 + 2 * 64 + 512);
        x.price(4, 999);
        // It is passed by anywhere: of those orders the first by numbers has it behind 3 2 1 0.
        due("3 2 1 0 4", x.bestStreet(), 3 + 2 * 8 + 64 + 4 * 4096);
    }

    private static void bestStreetTies() {
        says("of several the first by numbers");
        due("all alike", Check.with("b9 1 9/100;b9 1 9/100;b9 1 9/100;").bestStreet(), 8 + 2 * 64);
        // 0 is never opened: it may stand anywhere; 2 goes ahead of 1.
        BoxSearch x = Check.with("b9 1 9/100;b1 1 50/50 0/50;b1 1 90/50 0/50;");
        due("0 2 1 ahead of 2 0 1 and 2 1 0", x.bestStreet(), 2 * 8 + 64);
        due("they are as good", Check.street(x, 0, 2, 1), Check.street(x, 2, 1, 0));
        due("1 2 is not", Check.street(x, 0, 1, 2) < Check.street(x, 0, 2, 1) ? 1 : 0, 1);
    }

    private static void noBoxes() {
        says("-4: no BOXES.");
        BoxSearch x = new BoxSearch();
        due("bestStreet()", x.bestStreet(), -4);
        x.image();
        Check.tell(x, "b1 1 9/100;");
        due("bestStreet() of one", x.bestStreet(), 0);
        x.restore();
        due("bestStreet() of none again", x.bestStreet(), -4);
    }

    /** The seed after some turns, by longs cut to 32 bits each time. */
    private static long seed(long z, int turns) {
        long now = z & 0xffffffffL;
        for (int k = 0; k < turns; k++) {
            now = now * 1103515245L + 12345L & 0xffffffffL;
        }
        return now;
    }

    private static int lot(long z, int turns, int together) {
        return (int) (seed(z, turns) % 2147483648L / 65536 % together);
    }

    private static void seedsWrapAround() {
        says("z becomes z times 1103515245 and 12345 (an int), (z without its sign's bit by 65536, cut) modulo 100");
        BoxSearch x = Check.with("b0 1 101/1 100/1 99/1 98/97;");
        BoxSearch y = Check.with("b0 1 900/50 100/50;");
        int signs = 0;
        int[] seeds = {0, 1, -1, 2, -2, 65535, 65536, -65536, Integer.MAX_VALUE, Integer.MIN_VALUE,
            Integer.MAX_VALUE - 1, Integer.MIN_VALUE + 1, 12345, -12345, 1103515245, 987654321};
        for (int z : seeds) {
            int lot = lot(z, 1, 100);
            signs |= seed(z, 1) >= 2147483648L ? 1 : 2;
            due("run(0, " + z + ") of four steps", x.run(0, z), lot == 0 ? 101 : lot == 1 ? 100 : lot == 2 ? 99 : 98);
            due("run(1, " + z + ") of two steps", y.run(1, z), lot < 50 ? 900 : 100);
        }
        due("with the sign's bit and without", signs, 3);
    }

    /** The first seed from 0 on by which the lot of a turn is that. */
    private static int seedFor(int lot) {
        for (int z = 0; z < 1000000; z++) {
            if (lot(z, 1, 100) == lot) {
                return z;
            }
        }
        throw new IllegalStateException("no seed for " + lot);
    }

    private static void belowTheChance() {
        says("is from 0 on below the CHANCE of the first STEP, or of the first and second together, ..: that one");
        BoxSearch x = Check.with("b1 1 90/30 80/20 70/49 60/1;");
        int[][] want = {{0, 90}, {29, 90}, {30, 80}, {49, 80}, {50, 70}, {98, 70}, {99, 60}};
        for (int[] w : want) {
            for (int what = 0; what < 2; what++) {
                due("run(" + what + ") by " + w[0], x.run(what, seedFor(w[0])), w[1] - 1);
            }
        }
    }

    private static void drawnByOtherChances() {
        says("CHANCES of a BOX of which a KIN tells");
        // With 50 from the kin box 0 holds 90 surely; else it isn't opened.
        BoxSearch x = Check.with("b10 1 90/10 0/90;b0 0 50/50 0/50>0 100 0;");
        // The kin shows 51, then the first step of 0 has no chance, the second and third 50 each.
        BoxSearch y = Check.with("b10 1 90/1 80/1 0/98;b0 0 51/100>0 0 50 50;");
        for (int z = 0; z < 60; z++) {
            due("run(0, " + z + ") told of surely", x.run(0, z), lot(z, 1, 100) < 50 ? 80 : 0);
            for (int what = 0; what < 2; what++) {
                due("run(" + what + ", " + z + ") told of", y.run(what, z), lot(z, 2, 100) < 50 ? 70 : 41);
            }
        }
    }

    private static void moduloOfPeeped() {
        says("of a PEEPED one modulo what its CHANCES are together");
        // Not good (70 left), then 1 shows nothing, then 0 all the same.
        BoxSearch x = Check.with("b20 1 90/30 40/35 10/35?0;b1 1 60/50 0/50;");
        int differ = 0;
        int atEdge = 0;
        for (int z = 0; z < 40000; z++) {
            if (lot(z, 1, 100) < 30 || lot(z, 2, 100) < 50) {
                continue;
            }
            int lot = lot(z, 3, 70);
            differ |= lot(z, 3, 100) % 70 < 35 != lot < 35 ? 1 : 0;
            atEdge |= lot == 34 ? 1 : lot == 35 ? 2 : lot == 69 ? 4 : lot == 0 ? 8 : 0;
            if (z < 400 || lot == 34 || lot == 35 || lot == 0 || lot == 69) {
                due("run(0, " + z + ") by " + lot, x.run(0, z), (lot < 35 ? 40 : 10) - 21);
            }
        }
        due("seeds where modulo 100 would be another", differ, 1);
        due("lots 0, 34, 35 and 69", atEdge, 15);
    }

    private static void goodOnes() {
        says("each opening, peeping");
        // Chance 1: good by lot 0 alone; then it is surely what it shows.
        BoxSearch x = Check.with("b50 1 900/1 0/99?1;");
        due("best()", x.best(), 20);
        due("run by 0", x.run(0, seedFor(0)), 900 - 50 - 1);
        due("run by 1", x.run(0, seedFor(1)), -1);
        due("run by 99", x.run(0, seedFor(99)), -1);
        // Two peeps, both paid for.
        BoxSearch y = Check.with("b50 1 900/1 0/99?1;b60 1 900/1 0/99?2;");
        due("run by 99 of two", y.run(0, seedFor(99)), lot(seedFor(99), 2, 100) == 0 ? 900 - 63 : -3);
        // The rule never peeps: its number is below 0 for 50.
        due("the rule", x.run(1, seedFor(0)), 0);
    }

    private static void blindsAreDrawn() {
        says("a BLIND that is taken counts for what it holds, drawn so");
        BoxSearch x = Check.with("b40 1 90/50 30/50!;");
        due("run by 49", x.run(0, seedFor(49)), 90);
        due("run by 50", x.run(0, seedFor(50)), 30);
        // Behind an opening, for which a lot was drawn already.
        BoxSearch y = Check.with("b40 1 90/50 30/50!;b1 0 99/20 0/80;");
        due("best()", y.best(), 11);
        for (int z = 0; z < 60; z++) {
            long want = lot(z, 1, 100) < 20 ? 98 : lot(z, 2, 100) < 50 ? 89 : 29;
            due("run(0, " + z + ") behind an opening", y.run(0, z), want);
        }
    }

    private static void eachActDraws() {
        says("what is taken less what was paid");
        BoxSearch x = Check.with("b1 0 50/10 0/90;b1 0 49/10 0/90;b1 0 48/10 0/90;b1 0 47/10 0/90;b1 0 46/10 0/90;");
        int least = 99;
        for (int z = 0; z < 300; z++) {
            long want = -5;
            for (int turn = 5; turn >= 1; turn--) {
                want = lot(z, turn, 100) < 10 ? 51 - turn - turn : want;
            }
            least = (int) Math.min(least, want);
            due("run(0, " + z + ") of five", x.run(0, z), want);
            due("run(1, " + z + ") of five", x.run(1, z), want);
        }
        due("all five for nothing was seen", least, -5);
    }

    private static void runsWithoutActs() {
        says("from the first PLACE with a seed z");
        due("no boxes", new BoxSearch().run(0, 7), 0);
        due("no boxes, the rule", new BoxSearch().run(1, 7), 0);
        BoxSearch x = Check.with("b9 1 9/100;");
        due("nothing is worth it", x.run(0, 7), 0);
        x.open(0, 0);
        due("the first place, not the one at hand", x.run(0, 7), 0);
        due("the place stays", x.at(0), 3);
    }

    private static int thrown(BoxSearch x, int what) {
        try {
            x.run(what, 5);
        } catch (IllegalArgumentException e) {
            return 1;
        }
        return 0;
    }

    private static void runRefusals() {
        says("A RUN. IllegalArgumentException: what.");
        BoxSearch x = Check.with("b1 1 9/100;");
        for (int what : new int[] {-1, 2, Integer.MIN_VALUE, Integer.MAX_VALUE}) {
            due("run(" + what + ", 5) throws", thrown(x, what), 1);
            due("run(" + what + ", 5) without boxes throws", thrown(new BoxSearch(), what), 1);
        }
        due("run(0, 5) throws", thrown(x, 0), 0);
        due("run(1, 5) throws", thrown(x, 1), 0);
    }
}

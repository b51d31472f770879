/** Promises 27 to 36 and the words on images and shelves: a test for each sentence that names a boundary. */
public final class BoundaryShelfTest {
    private static final Check CHECK = new Check("BoundaryShelfTest");
    private static final int MIN = Integer.MIN_VALUE;
    private static final int MAX = Integer.MAX_VALUE;
    private static final int[] FAR = {MIN, -1000, -1, 1000, MAX};
    private static final int[] NO_SHELVES = {-1, 8, MIN, MAX};
    /** A box of each kind but the rival. */
    private static final String FIVE =
        "b10 4 90/50 20/50;b20 3 9/50 8/50?7;b30 2 9/50 8/50!;b40 5 9/50 8/50<0;b50 6 9/50 8/50>0 50 50;";

    public static void main(String[] args) {
        images();
        imagesOfAll();
        manyImages();
        imageKeepsNoShelves();
        noImage();
        counts();
        shelvesHoldNothing();
        keepRefusals();
        asItIsToldNow();
        rowSizes();
        rowRefusals();
        zeroAtFirst();
        lowestBits();
        putRefusals();
        elementRefusals();
        copyBoundaries();
        copyOverlaps();
        copyRefusals();
        copyRefusalsInOrder();
        weights();
        weightRefusals();
        tosses();
        noFailures();
        tossRefusals();
        CHECK.end();
    }

    private static void says(String words) {
        CHECK.says(words);
    }

    private static void due(String call, long got, long want) {
        CHECK.due(call, got, want);
    }

    private static void images() {
        says("THE IMAGE is taken: how many BOXES.");
        BoxSearch x = new BoxSearch();
        due("image() of none", x.image(), 0);
        String one = "b1 1 9/100;";
        for (int k = 1; k <= 5; k++) {
            Check.tell(x, one);
            due("image() of " + k, x.image(), k);
            due("restore() of " + k, x.restore(), k);
        }
        due("no room is left", Check.tell(x, one), -2000);
    }

    private static void imagesOfAll() {
        says("THE IMAGE: all that there is, but SHELVES (and THE IMAGE); RESTORED all is as it was then.");
        BoxSearch x = Check.with("b10 1 90/50 20/50?3;b5 2 40/60 10/40;l20;");
        x.peep(0, false);
        x.open(1, 0);
        long mean = x.bestMean();
        x.image();
        x.price(0, 999);
        x.bell(1);
        x.undo();
        x.undo();
        x.open(0, 0);
        Check.tell(x, "b1 1 9/100>1 0 100;l3;");
        x.best();
        due("restore()", x.restore(), 2);
        due("boxes", x.count(0), 2);
        due("the bell", x.count(1), 20);
        due("the price", x.box(0, 1), 10);
        due("no kin tells", x.box(1, 5), -4);
        due("no other chance", x.step(1, 0, 2), -4);
        due("the place", x.at(0), 2 + 3 * 5);
        due("what one has", x.at(1), 40);
        due("the hours", x.at(2), 2);
        due("the acts", x.at(3), 2);
        due("the plan", x.bestMean(), mean);
        due("undo() of the opening", x.undo(), 1);
        due("undo() of the peep", x.undo(), 0);
        due("undo() of none", x.undo(), -3);
        due("the image is there still", x.restore(), 2);
        due("the place again", x.at(0), 2 + 3 * 5);
        // What a box was ahead of each act.
        BoxSearch y = Check.with("b10 1 90/50 20/50?3;b5 2 40/60 10/40;");
        y.peep(0, true);
        y.open(0, 0);
        y.image();
        y.undo();
        y.undo();
        y.open(1, 1);
        y.open(0, 1);
        y.restore();
        due("at(1) of the first step", y.at(1), 90);
        due("undo() of an opening", y.undo(), 1);
        due("peeped and good again", y.is(0), 1);
        due("undo() of a peep", y.undo(), 0);
        due("shut again", y.is(0), 0);
        // Taken anew it is another one.
        x.undo();
        x.image();
        x.undo();
        x.restore();
        due("the place of the new one", x.at(0), 2);
    }

    /** Of all that has been told and is gone nothing may be left. */
    private static void manyImages() {
        says("RESTORED all is as it was then");
        BoxSearch x = new BoxSearch();
        x.image();
        for (int round = 0; round < 6; round++) {
            StringBuilder text = new StringBuilder();
            for (int b = 0; b < 5; b++) {
                int top = 900 - 100 * b - round;
                text.append("b0 1");
                for (int i = 0; i < 4; i++) {
                    text.append(' ').append(top - 20 * i).append("/25");
                }
                text.append(';');
                due("box " + b + " of round " + round, Check.tell(x, text.toString()), 1);
                text.setLength(0);
            }
            due("count(2)", x.count(2), 20);
            for (int i = 0; i < 4; i++) {
                for (int b = 0; b < 5; b++) {
                    due("open(" + b + ", " + i + ")", x.open(b, i), 900 - 100 * b - round - 20 * i);
                    x.undo();
                }
            }
            // The first box is worth most, whatever it shows: the mean of its four.
            due("bestMean()", x.bestMean(), (870L - round) * 10000000000L);
            due("restore()", x.restore(), 0);
            due("count(2) of none", x.count(2), 0);
            due("bestMean() of none", x.bestMean(), 0);
        }
    }

    private static void imageKeepsNoShelves() {
        says("but SHELVES");
        BoxSearch x = Check.with(FIVE);
        x.row(0, 1, 2);
        x.put(0, 1, 5);
        x.keep(1, 1, 4);
        x.image();
        x.put(0, 1, 6);
        x.row(0, 1, 3);
        x.put(0, 1, 7);
        x.keep(1, 0, 0);
        x.keep(2, 1, 3);
        x.restore();
        due("a row stays as it is", x.element(0, 1), 7);
        due("its size too", x.element(0, 2), 0);
        due("nothing stays nothing", x.weight(1), -11);
        due("a box stays", x.weight(2), 55);
        // A box on a shelf outlives the boxes told.
        BoxSearch y = new BoxSearch();
        y.image();
        Check.tell(y, FIVE);
        y.keep(3, 1, 4);
        y.restore();
        due("count(0)", y.count(0), 0);
        due("weight(3)", y.weight(3), 71);
        due("toss(3)", y.toss(3), 104);
        due("keep(3, 1, 4)", y.keep(3, 1, 4), -1);
    }

    private static void noImage() {
        says("THE IMAGE is RESTORED: how many BOXES. -3: there is none.");
        BoxSearch x = Check.with(FIVE);
        due("restore()", x.restore(), -3);
        due("count(0)", x.count(0), 5);
        x.image();
        due("restore() then", x.restore(), 5);
    }

    private static void counts() {
        says("5 those that MAY be opened; -1 for others.");
        BoxSearch x = Check.with(FIVE);
        int[] want = {5, 99, 10, 0, 0, 4};
        for (int what = 0; what < 6; what++) {
            due("count(" + what + ")", x.count(what), want[what]);
        }
        due("count(6)", x.count(6), -1);
        for (int far : FAR) {
            due("count(" + far + ")", x.count(far), -1);
        }
        x.peep(1, true);
        due("a peeped one", x.count(4), 1);
        due("may still be opened", x.count(5), 4);
        for (int b = 0; b < 5; b++) {
            x.open(b, 0);
        }
        int[] then = {5, 99, 10, 5, 0, 0};
        for (int what = 0; what < 6; what++) {
            due("count(" + what + ") with all open", x.count(what), then[what]);
        }
        BoxSearch z = Check.with("b1 1 9/50 8/50?1;b1 1 9/50 8/50?1;b1 1 9/50 8/50;");
        z.peep(0, false);
        z.open(2, 1);
        due("count(4): peeped and not", z.count(4), 1);
        due("count(3): open with another step", z.count(3), 1);
        z.peep(1, true);
        due("count(4): good and not", z.count(4), 2);
        BoxSearch y = Check.with("b1 1 9/25 8/25 7/25 6/25;b1 1 9/100;");
        due("count(2) of 4 and 1", y.count(2), 5);
        y.bell(0);
        due("count(1) at 0", y.count(1), 0);
        due("count(5) at 0", y.count(5), 0);
    }

    private static void shelvesHoldNothing() {
        says("SHELVES 0 .. 7 each hold nothing (at first)");
        BoxSearch x = Check.with(FIVE);
        BoxSearch y = new BoxSearch();
        for (int d = 0; d < 8; d++) {
            due("weight(" + d + ")", y.weight(d), -11);
            due("toss(" + d + ")", y.toss(d), -11);
            due("put(" + d + ")", y.put(d, 0, 0), -11);
            due("text(" + d + ")", y.text(d), -11);
            due("element(" + d + ")", thrown(y, d, 0), 2);
            due("keep(" + d + ", 1, 0)", x.keep(d, 1, 0), 0);
            due("keep(" + d + ", 0, 0)", x.keep(d, 0, 0), 0);
            due("weight(" + d + ") of nothing", x.weight(d), -11);
            due("row(" + d + ")", x.row(d, 2, 1), 0);
            x.put(d, 0, 100 + d);
        }
        for (int d = 0; d < 8; d++) {
            due("each has its own: " + d, x.element(d, 0), 100 + d);
        }
        for (int d : NO_SHELVES) {
            due("keep(" + d + ", 0, 0)", x.keep(d, 0, 0), -1);
        }
    }

    private static void keepRefusals() {
        says("SHELF d gets: what = 0 nothing; 1 BOX k (as it is told now): 0. -1.");
        BoxSearch x = Check.with("b10 4 90/50 20/50;b20 3 9/100;");
        for (int d : NO_SHELVES) {
            due("keep(" + d + ", 1, 0)", x.keep(d, 1, 0), -1);
        }
        x.keep(0, 1, 0);
        for (int what : new int[] {-1, 2, MIN, MAX}) {
            due("keep(0, " + what + ", 0)", x.keep(0, what, 0), -1);
        }
        due("keep(0, 1, 2)", x.keep(0, 1, 2), -1);
        for (int far : FAR) {
            due("keep(0, 1, " + far + ")", x.keep(0, 1, far), -1);
        }
        due("weight(0) stays", x.weight(0), 14);
        due("keep(0, 1, 1): the last", x.keep(0, 1, 1), 0);
        due("weight(0)", x.weight(0), 23);
        for (int far : FAR) {
            due("keep(0, 0, " + far + "): what k is doesn't matter", x.keep(0, 0, far), 0);
        }
        due("keep(0, 1, 0) without boxes", new BoxSearch().keep(0, 1, 0), -1);
    }

    private static void asItIsToldNow() {
        says("as it is told now");
        BoxSearch x = Check.with("b10 4 90/50 20/50;");
        x.keep(0, 1, 0);
        x.price(0, 999);
        due("weight(0) as it was told then", x.weight(0), 14);
        x.keep(1, 1, 0);
        due("weight(1)", x.weight(1), 1003);
        x.open(0, 0);
        x.keep(2, 1, 0);
        due("weight(2) of an open one", x.weight(2), 1003);
    }

    private static void rowSizes() {
        says("0 .. 120 elements");
        BoxSearch x = new BoxSearch();
        for (int sort = 0; sort < 3; sort++) {
            due("row(0, " + sort + ", 0)", x.row(0, sort, 0), 0);
            due("put(0, 0, 1)", x.put(0, 0, 1), -13);
            due("element(0, 0)", thrown(x, 0, 0), 2);
            due("row(0, " + sort + ", 120)", x.row(0, sort, 120), 0);
            due("put(0, 119, 1)", x.put(0, 119, 1), 0);
            due("put(0, 120, 1)", x.put(0, 120, 1), -13);
            due("element(0, 119)", thrown(x, 0, 119), 0);
            due("element(0, 120)", thrown(x, 0, 120), 2);
            due("row(0, " + sort + ", 121)", x.row(0, sort, 121), -1);
        }
    }

    private static void rowRefusals() {
        says("SHELF d gets a ROW of a SORT: 0. -1 (n above 120); -14.");
        BoxSearch x = new BoxSearch();
        x.row(0, 2, 3);
        x.put(0, 2, 77);
        for (int d : NO_SHELVES) {
            due("row(" + d + ", 0, 1)", x.row(d, 0, 1), -1);
            due("row(" + d + ", 0, -1)", x.row(d, 0, -1), -1);
        }
        for (int sort : new int[] {-1, 3, MIN, MAX}) {
            due("row(0, " + sort + ", 1)", x.row(0, sort, 1), -1);
            due("row(0, " + sort + ", -1)", x.row(0, sort, -1), -1);
        }
        due("row(0, 0, 121)", x.row(0, 0, 121), -1);
        due("row(0, 0, MAX)", x.row(0, 0, MAX), -1);
        due("row(0, 0, -1)", x.row(0, 0, -1), -14);
        due("row(0, 2, MIN)", x.row(0, 2, MIN), -14);
        due("the row stays", x.element(0, 2), 77);
        due("its size stays", thrown(x, 0, 3), 2);
        due("a shelf with nothing", x.row(1, 0, -1), -14);
        due("stays with nothing", x.weight(1), -11);
    }

    private static void zeroAtFirst() {
        says("0 at first");
        BoxSearch x = new BoxSearch();
        for (int round = 0; round < 2; round++) {
            x.row(3, 2, 120);
            for (int i = 0; i < 120; i += 7) {
                due("element(3, " + i + ")", x.element(3, i), 0);
                x.put(3, i, -5 - i);
            }
        }
        x.row(3, 0, 4);
        x.row(3, 2, 120);
        due("element(3, 7)", x.element(3, 7), 0);
        due("element(3, 119)", x.element(3, 119), 0);
    }

    private static void lowestBits() {
        says("what is put in keeps its lowest bits");
        int[] values = {0, 1, -1, 127, 128, 129, 255, 256, 257, -127, -128, -129, 32767, 32768, 32769, 65535, 65536,
            65537, -32768, -32769, MAX, MIN, MIN + 1};
        BoxSearch x = new BoxSearch();
        for (int v : values) {
            long low8 = Math.floorMod(v, 256);
            long low16 = Math.floorMod(v, 65536);
            long[] want = {low8 > 127 ? low8 - 256 : low8, low16 > 32767 ? low16 - 65536 : low16, v};
            for (int sort = 0; sort < 3; sort++) {
                x.row(sort, sort, 1);
                due("put(" + sort + ", 0, " + v + ")", x.put(sort, 0, v), 0);
                due("element(" + sort + ", 0)", x.element(sort, 0), want[sort]);
            }
        }
    }

    private static void putRefusals() {
        says("Element i of the ROW becomes v: 0. -1, -11, -12, -13.");
        BoxSearch x = Check.with("b10 4 90/50 20/50;");
        x.row(0, 1, 3);
        x.keep(1, 1, 0);
        for (int d : NO_SHELVES) {
            due("put(" + d + ", 0, 1)", x.put(d, 0, 1), -1);
            due("put(" + d + ", -1, 1)", x.put(d, -1, 1), -1);
        }
        due("put(2, 0, 1)", x.put(2, 0, 1), -11);
        due("put(2, -1, 1)", x.put(2, -1, 1), -11);
        due("put(1, 0, 1)", x.put(1, 0, 1), -12);
        due("put(1, -1, 1)", x.put(1, -1, 1), -12);
        for (int i : new int[] {-1, 3, 119, 120, MIN, MAX}) {
            due("put(0, " + i + ", 1)", x.put(0, i, 1), -13);
        }
        for (int i = 0; i < 3; i++) {
            due("put(0, " + i + ", 1)", x.put(0, i, 1), 0);
        }
    }

    /** 1 IllegalArgumentException, 2 IllegalStateException, 0 nothing. */
    private static int thrown(BoxSearch x, int d, int i) {
        try {
            x.element(d, i);
        } catch (IllegalArgumentException e) {
            return 1;
        } catch (IllegalStateException e) {
            return 2;
        }
        return 0;
    }

    private static void elementRefusals() {
        says("Element i of the ROW. IllegalArgumentException: no such SHELF; IllegalStateException: no ROW, "
            + "no such place.");
        BoxSearch x = Check.with("b10 4 90/50 20/50;");
        x.row(0, 1, 3);
        x.keep(1, 1, 0);
        for (int d : NO_SHELVES) {
            due("element(" + d + ", 0)", thrown(x, d, 0), 1);
            due("element(" + d + ", -1)", thrown(x, d, -1), 1);
        }
        due("element(1, 0) of a box", thrown(x, 1, 0), 2);
        due("element(2, 0) of nothing", thrown(x, 2, 0), 2);
        for (int i : new int[] {-1, 3, 119, 120, MIN, MAX}) {
            due("element(0, " + i + ")", thrown(x, 0, i), 2);
        }
        due("element(0, 0)", thrown(x, 0, 0), 0);
        due("element(0, 2)", thrown(x, 0, 2), 0);
    }

    private static BoxSearch twoRows() {
        BoxSearch x = Check.with("b10 4 90/50 20/50;");
        x.row(0, 2, 5);
        x.row(1, 2, 3);
        for (int i = 0; i < 5; i++) {
            x.put(0, i, 10 + i);
        }
        x.row(2, 1, 3);
        x.keep(3, 1, 0);
        return x;
    }

    private static String all(BoxSearch x, int d, int size) {
        StringBuilder s = new StringBuilder();
        for (int i = 0; i < size; i++) {
            s.append(x.element(d, i)).append(' ');
        }
        return s.toString();
    }

    private static void same(String call, String got, String want) {
        CHECK.due(call + " is " + got + "not " + want, got.equals(want));
    }

    private static void copyBoundaries() {
        says("n elements of the ROW in SHELF d from i on come to that in SHELF e from j on: n.");
        BoxSearch x = twoRows();
        due("all that fit", x.copy(0, 2, 1, 0, 3), 3);
        same("shelf 1", all(x, 1, 3), "12 13 14 ");
        due("the last to the last", x.copy(0, 0, 1, 2, 1), 1);
        same("shelf 1", all(x, 1, 3), "12 13 10 ");
        due("none", x.copy(0, 0, 1, 0, 0), 0);
        due("none at the ends", x.copy(0, 5, 1, 3, 0), 0);
        due("none behind the end", x.copy(0, 6, 1, 3, 0), -13);
        due("none behind the other end", x.copy(0, 5, 1, 4, 0), -13);
        due("one behind the end", x.copy(0, 5, 1, 0, 1), -13);
        due("one behind the other end", x.copy(0, 0, 1, 3, 1), -13);
        due("one too many", x.copy(0, 3, 1, 0, 3), -13);
        due("one too many there", x.copy(0, 0, 1, 1, 3), -13);
        same("shelf 1 stays", all(x, 1, 3), "12 13 10 ");
        x.row(4, 2, 0);
        x.row(5, 2, 120);
        x.row(6, 2, 120);
        due("none of an empty row", x.copy(4, 0, 0, 5, 0), 0);
        due("one of an empty row", x.copy(4, 0, 0, 0, 1), -13);
        x.put(5, 0, 3);
        x.put(5, 119, 4);
        due("120", x.copy(5, 0, 6, 0, 120), 120);
        due("the first", x.element(6, 0), 3);
        due("the last", x.element(6, 119), 4);
        due("121", x.copy(5, 0, 6, 0, 121), -13);
    }

    private static void copyOverlaps() {
        says("come to that in SHELF e");
        BoxSearch x = twoRows();
        due("onwards in itself", x.copy(0, 0, 0, 1, 4), 4);
        same("shelf 0", all(x, 0, 5), "10 10 11 12 13 ");
        due("back in itself", x.copy(0, 2, 0, 0, 3), 3);
        same("shelf 0", all(x, 0, 5), "11 12 13 12 13 ");
        due("onto itself", x.copy(0, 0, 0, 0, 5), 5);
        same("shelf 0", all(x, 0, 5), "11 12 13 12 13 ");
    }

    private static void copyRefusals() {
        says("-1, -11 (either), -12 (no ROWS of one SORT), -13.");
        BoxSearch x = twoRows();
        for (int d : NO_SHELVES) {
            due("copy(" + d + ", 0, 1, 0, 1)", x.copy(d, 0, 1, 0, 1), -1);
            due("copy(0, 0, " + d + ", 0, 1)", x.copy(0, 0, d, 0, 1), -1);
        }
        due("from nothing", x.copy(6, 0, 1, 0, 1), -11);
        due("to nothing", x.copy(0, 0, 6, 0, 1), -11);
        due("from nothing to nothing", x.copy(6, 0, 6, 0, 1), -11);
        due("from a box", x.copy(3, 0, 1, 0, 1), -12);
        due("to a box", x.copy(0, 0, 3, 0, 1), -12);
        due("from a box to itself", x.copy(3, 0, 3, 0, 1), -12);
        due("ints to shorts", x.copy(0, 0, 2, 0, 1), -12);
        due("shorts to ints", x.copy(2, 0, 0, 0, 1), -12);
        x.row(4, 0, 3);
        due("bytes to shorts", x.copy(4, 0, 2, 0, 1), -12);
        for (int far : FAR) {
            due("from " + far, x.copy(0, far, 1, 0, 1), -13);
            due("to " + far, x.copy(0, 0, 1, far, 1), -13);
            due("none from " + far, x.copy(0, far, 1, 0, 0), -13);
            due("none to " + far, x.copy(0, 0, 1, far, 0), -13);
            due("so many: " + far, x.copy(0, 0, 1, 0, far), -13);
            due("so many from there: " + far, x.copy(0, far, 1, 0, far), -13);
            due("so many to there: " + far, x.copy(0, 0, 1, far, far), -13);
        }
        // Sums that wrap around.
        due("from MAX, MAX", x.copy(0, MAX, 1, MAX, MAX), -13);
        due("from 1, MAX", x.copy(0, 1, 1, 1, MAX), -13);
        due("from 5, MIN", x.copy(0, 5, 1, 3, MIN), -13);
        same("shelf 0 stays", all(x, 0, 5), "10 11 12 13 14 ");
        same("shelf 1 stays", all(x, 1, 3), "0 0 0 ");
    }

    private static void copyRefusalsInOrder() {
        says("Answers of several refusals are the first one here");
        BoxSearch x = twoRows();
        due("no shelf and nothing", x.copy(8, 0, 6, 0, 1), -1);
        due("nothing and no shelf", x.copy(6, 0, -1, 0, 1), -1);
        due("a box and no shelf, too far", x.copy(3, 9, 8, 9, 9), -1);
        due("a box and nothing", x.copy(3, 0, 6, 0, 1), -11);
        due("nothing and a box", x.copy(6, 0, 3, 0, 1), -11);
        due("nothing, too far", x.copy(0, 9, 6, 0, 1), -11);
        due("a box, too far", x.copy(3, 9, 0, 0, 1), -12);
        due("another sort, too far", x.copy(0, 9, 2, 9, 9), -12);
        due("another sort, fewer than none", x.copy(0, 0, 2, 0, -1), -12);
    }

    private static int weight(String text, int box) {
        BoxSearch x = Check.with(text);
        x.keep(0, 1, box);
        return x.weight(0);
    }

    private static void weights() {
        says("BOX its PRICE and HOURS; PEEP its PEEP PRICE more; BLIND twice a BOX's; BEHIND 10 more than a BOX's; "
            + "KIN 5 more than a BEHIND's; RIVAL a BOX's less HOURS, and LATEST.");
        due("the least box", weight("b0 0 9/100;", 0), 0);
        due("the greatest box", weight("b999 9 9/100;", 0), 1008);
        due("the least peep", weight("b0 0 9/100?0;", 0), 0);
        due("the greatest peep", weight("b999 9 9/100?999;", 0), 2007);
        due("the least blind", weight("b0 0 9/100!;", 0), 0);
        due("the greatest blind", weight("b999 9 9/100!;", 0), 2016);
        due("the least behind", weight("b9 9 9/100;b0 0 9/100<0;", 1), 10);
        due("the greatest behind", weight("b9 9 9/100;b999 9 9/100<0;", 1), 1018);
        due("the least kin", weight("b9 9 9/100;b0 0 9/100>0 100;", 1), 15);
        due("the greatest kin", weight("b9 9 9/100;b999 9 9/100>0 100;", 1), 1023);
        due("the least rival", weight("b0 9 9/100@1;", 0), 1);
        due("the greatest rival", weight("b999 0 9/100@99;", 0), 1098);
    }

    private static void weightRefusals() {
        says("WEIGHT of the BOX on SHELF d. -1, -11, -12 (a ROW).");
        BoxSearch x = Check.with(FIVE);
        for (int d : NO_SHELVES) {
            due("weight(" + d + ")", x.weight(d), -1);
        }
        due("weight(0) of nothing", x.weight(0), -11);
        for (int sort = 0; sort < 3; sort++) {
            x.row(0, sort, sort);
            due("weight(0) of a row of sort " + sort, x.weight(0), -12);
        }
        x.keep(0, 1, 0);
        due("weight(0) of a box", x.weight(0), 14);
        x.keep(0, 0, 0);
        due("weight(0) of nothing again", x.weight(0), -11);
    }

    private static int toss(String text, int box) {
        BoxSearch x = Check.with(text);
        x.keep(7, 1, box);
        return x.toss(7);
    }

    private static void tosses() {
        says("its number; of KIN 100 more; of RIVALS LATEST in place of that.");
        String two = "b1 1 9/50 8/50;";
        due("box 0", toss(two, 0), 0);
        due("box 4", toss(two.repeat(5), 4), 4);
        due("a peep", toss(two + "b1 1 9/50 8/50?1;", 1), 1);
        due("a behind", toss(two + two + "b1 1 9/50 8/50<0;", 2), 2);
        due("the least kin", toss(two + "b1 1 9/50 8/50>0 50 50;", 1), 101);
        due("the last kin", toss(two.repeat(4) + "b1 1 9/50 8/50>0 50 50;", 4), 104);
        due("a rival, latest 1", toss(two + "b1 1 9/50 8/50@1;", 1), 1);
        due("a rival, latest 99", toss(two + "b1 1 9/50 8/50@99;", 1), 99);
        due("with four steps", toss(two + "b1 1 9/25 8/25 7/25 6/25;", 1), 1);
    }

    private static void noFailures() {
        says("-15: BLIND ones, and any with one STEP, have none.");
        due("a blind with one step", toss("b1 1 9/100!;", 0), -15);
        due("a blind with four steps", toss("b1 1 9/25 8/25 7/25 6/25!;", 0), -15);
        due("a box with one step", toss("b1 1 9/100;", 0), -15);
        due("a peep with one step", toss("b1 1 9/100?1;", 0), -15);
        due("a behind with one step", toss("b1 1 9/50 8/50;b1 1 9/100<0;", 1), -15);
        due("a kin with one step", toss("b1 1 9/50 8/50;b1 1 9/100>0 50 50;", 1), -15);
        due("a kin with two steps, of one with one", toss("b1 1 9/100;b1 1 9/50 8/50>0 100;", 1), 101);
        due("a rival with one step", toss("b1 1 9/100@44;", 0), -15);
    }

    private static void tossRefusals() {
        says("-1, -11, -12 (a ROW); -15");
        BoxSearch x = Check.with(FIVE);
        for (int d : NO_SHELVES) {
            due("toss(" + d + ")", x.toss(d), -1);
        }
        due("toss(0) of nothing", x.toss(0), -11);
        for (int sort = 0; sort < 3; sort++) {
            x.row(0, sort, sort);
            due("toss(0) of a row of sort " + sort, x.toss(0), -12);
        }
        x.keep(0, 1, 2);
        due("toss(0) of a blind", x.toss(0), -15);
        x.keep(0, 1, 3);
        due("toss(0)", x.toss(0), 3);
        due("toss(0) once more", x.toss(0), 3);
        due("the box stays", x.weight(0), 55);
    }
}

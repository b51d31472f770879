/** Promises 27 to 36: the image, counts, shelves. */
public final class ShelfTest {
    private static final Check CHECK = new Check("ShelfTest");

    public static void main(String[] args) {
        images();
        counts();
        keeping();
        rows();
        puts();
        elements();
        copies();
        weights();
        failures();
        CHECK.end();
    }

    private static void due(String call, long got, long want) {
        CHECK.due(call, got, want);
    }

    private static void images() {
        BoxSearch x = new BoxSearch();
        due("restore()", x.restore(), -3);
        due("image() of nothing", x.image(), 0);
        Check.tell(x, "b10 1 90/50 20/50;b5 2 40/100?2;");
        due("restore() of nothing", x.restore(), 0);
        due("count(0)", x.count(0), 0);
        due("bestMean()", x.bestMean(), 0);
        Check.tell(x, "b10 1 90/50 20/50;b5 2 40/60 10/40?2;l20;");
        x.peep(1, false);
        x.open(0, 1);
        due("image()", x.image(), 2);
        due("bestMean() there", x.bestMean(), 800);
        x.bell(3);
        x.price(1, 77);
        x.row(3, 2, 5);
        x.put(3, 0, 6);
        x.keep(4, 1, 1);
        x.undo();
        x.undo();
        x.open(0, 0);
        Check.tell(x, "b1 1 9/100>0 100 0;");
        due("count(0) with a third", x.count(0), 3);
        due("restore()", x.restore(), 2);
        due("count(0) as then", x.count(0), 2);
        due("count(1) as then", x.count(1), 20);
        due("box(1, 1) as then", x.box(1, 1), 5);
        due("box(0, 5) as then", x.box(0, 5), -4);
        due("at(0) as then", x.at(0), 4 + 2 * 5);
        due("at(1) as then", x.at(1), 20);
        due("at(3) as then", x.at(3), 2);
        due("bestMean() as then", x.bestMean(), 800);
        due("shelves stay", x.element(3, 0), 6);
        due("boxes on them too", x.weight(4), 77 + 2 + 2);
        due("undo() as then", x.undo(), 1);
        due("is(0)", x.is(0), 0);
        due("undo() once more", x.undo(), 0);
        due("is(1)", x.is(1), 0);
        due("restore() again", x.restore(), 2);
        due("at(0) again", x.at(0), 4 + 2 * 5);
        x.undo();
        due("a new image()", x.image(), 2);
        x.undo();
        due("restore() of the new one", x.restore(), 2);
        due("at(0) of the new one", x.at(0), 2 * 5);
    }

    private static void counts() {
        BoxSearch x = new BoxSearch();
        int[] none = {0, 99, 0, 0, 0, 0};
        for (int what = 0; what < 6; what++) {
            due("count(" + what + ") of nothing", x.count(what), none[what]);
        }
        Check.tell(x, "l9;b10 4 90/50 20/50;b5 2 40/60 10/40?2;b5 1 7/100?1;b1 5 4/20 3/30 2/25 1/25<0;");
        x.peep(1, true);
        x.peep(2, true);
        x.open(0, 1);
        int[] want = {4, 9, 9, 1, 2, 3};
        for (int what = 0; what < 6; what++) {
            due("count(" + what + ")", x.count(what), want[what]);
        }
        x.open(2, 0);
        due("count(3) then", x.count(3), 2);
        due("count(4) then", x.count(4), 1);
        due("count(5) then", x.count(5), 1);
        due("count(6)", x.count(6), -1);
        due("count(-1)", x.count(-1), -1);
    }

    private static void keeping() {
        BoxSearch x = Check.with("b10 4 90/50 20/50;b5 2 40/60 10/40?2;");
        due("keep(8, 0, 0)", x.keep(8, 0, 0), -1);
        due("keep(-1, 0, 0)", x.keep(-1, 0, 0), -1);
        due("keep(0, 2, 0)", x.keep(0, 2, 0), -1);
        due("keep(0, -1, 0)", x.keep(0, -1, 0), -1);
        due("keep(0, 1, 2)", x.keep(0, 1, 2), -1);
        due("keep(0, 1, -1)", x.keep(0, 1, -1), -1);
        due("weight(0): nothing", x.weight(0), -11);
        due("keep(0, 1, 1)", x.keep(0, 1, 1), 0);
        due("weight(0)", x.weight(0), 9);
        due("keep(0, 1, 2) refused", x.keep(0, 1, 2), -1);
        due("weight(0) stays", x.weight(0), 9);
        x.price(1, 100);
        due("weight(0) as it was told", x.weight(0), 9);
        due("keep(1, 1, 1)", x.keep(1, 1, 1), 0);
        due("weight(1)", x.weight(1), 104);
        due("keep(0, 0, 99)", x.keep(0, 0, 99), 0);
        due("weight(0) of nothing", x.weight(0), -11);
        x.row(2, 0, 4);
        due("keep over a row", x.keep(2, 1, 0), 0);
        due("put then", x.put(2, 0, 1), -12);
        due("weight(2)", x.weight(2), 14);
    }

    private static void rows() {
        BoxSearch x = Check.with("b10 4 90/50 20/50;");
        due("row(0, 0, 0)", x.row(0, 0, 0), 0);
        due("put(0, 0, 1)", x.put(0, 0, 1), -13);
        due("row(7, 2, 120)", x.row(7, 2, 120), 0);
        due("put(7, 119, 5)", x.put(7, 119, 5), 0);
        due("put(7, 120, 5)", x.put(7, 120, 5), -13);
        due("row(7, 2, 120) again", x.row(7, 2, 120), 0);
        due("element is 0 again", x.element(7, 119), 0);
        due("row(0, 0, 121)", x.row(0, 0, 121), -1);
        due("row(0, 3, 1)", x.row(0, 3, 1), -1);
        due("row(0, -1, 1)", x.row(0, -1, 1), -1);
        due("row(8, 0, 1)", x.row(8, 0, 1), -1);
        due("row(-1, 0, 1)", x.row(-1, 0, 1), -1);
        due("row(0, 0, -1)", x.row(0, 0, -1), -14);
        due("row(0, 3, -1)", x.row(0, 3, -1), -1);
        due("row(8, 0, -1)", x.row(8, 0, -1), -1);
        due("row(0, 0, MIN)", x.row(0, 0, Integer.MIN_VALUE), -14);
        due("row(0, 0, MAX)", x.row(0, 0, Integer.MAX_VALUE), -1);
        x.put(7, 0, 9);
        due("a refused row(7, 0, -1)", x.row(7, 0, -1), -14);
        due("changes nothing", x.element(7, 0), 9);
        x.keep(1, 1, 0);
        due("row over a box", x.row(1, 0, 1), 0);
        due("weight then", x.weight(1), -12);
    }

    private static void puts() {
        BoxSearch x = Check.with("b10 4 90/50 20/50;");
        due("put(8, 0, 1)", x.put(8, 0, 1), -1);
        due("put(-1, 0, 1)", x.put(-1, 0, 1), -1);
        due("put(0, 0, 1)", x.put(0, 0, 1), -11);
        x.keep(0, 1, 0);
        due("put on a box", x.put(0, 0, 1), -12);
        int[] values = {0, 127, 128, 255, 256, -1, -129, 32767, 32768, 65535, 65536, Integer.MAX_VALUE,
            Integer.MIN_VALUE};
        for (int sort = 0; sort < 3; sort++) {
            x.row(0, sort, 2);
            for (int v : values) {
                long want = sort == 0 ? (byte) v : sort == 1 ? (short) v : v;
                due("put(0, 1, " + v + ")", x.put(0, 1, v), 0);
                due("element of sort " + sort, x.element(0, 1), want);
            }
            due("put(0, 2, 1)", x.put(0, 2, 1), -13);
            due("put(0, -1, 1)", x.put(0, -1, 1), -13);
            due("element 0 stays", x.element(0, 0), 0);
        }
    }

    /** 1 IllegalArgumentException, 2 IllegalStateException, 0 nothing. */
    private static int thrown(BoxSearch x, int d, int i) {
        try {
            x.element(d, i);
        } catch (IllegalArgumentException e) {
            return 1;
        } catch (IllegalStateException e) {
            return 2;
        }
        return 0;
    }

    private static void elements() {
        BoxSearch x = Check.with("b10 4 90/50 20/50;");
        x.row(0, 1, 3);
        x.keep(1, 1, 0);
        due("element(0, 0)", thrown(x, 0, 0), 0);
        due("element(0, 2)", thrown(x, 0, 2), 0);
        due("element(0, 3)", thrown(x, 0, 3), 2);
        due("element(0, -1)", thrown(x, 0, -1), 2);
        due("element(1, 0) of a box", thrown(x, 1, 0), 2);
        due("element(2, 0) of nothing", thrown(x, 2, 0), 2);
        due("element(8, 0)", thrown(x, 8, 0), 1);
        due("element(-1, 0)", thrown(x, -1, 0), 1);
    }

    private static void copies() {
        BoxSearch x = Check.with("b10 4 90/50 20/50;");
        x.row(0, 1, 5);
        x.row(1, 1, 3);
        x.row(2, 2, 3);
        x.keep(3, 1, 0);
        for (int i = 0; i < 5; i++) {
            x.put(0, i, 10 + i);
        }
        due("copy(0, 1, 1, 0, 3)", x.copy(0, 1, 1, 0, 3), 3);
        for (int i = 0; i < 3; i++) {
            due("element(1, " + i + ")", x.element(1, i), 11 + i);
        }
        due("copy onto itself, onwards", x.copy(0, 0, 0, 1, 4), 4);
        int[] want = {10, 10, 11, 12, 13};
        for (int i = 0; i < 5; i++) {
            due("element(0, " + i + ")", x.element(0, i), want[i]);
        }
        due("copy onto itself, back", x.copy(0, 1, 0, 0, 4), 4);
        int[] back = {10, 11, 12, 13, 13};
        for (int i = 0; i < 5; i++) {
            due("element(0, " + i + ") back", x.element(0, i), back[i]);
        }
        due("copy of none at the end", x.copy(0, 5, 1, 3, 0), 0);
        due("copy of none behind the end", x.copy(0, 6, 1, 3, 0), -13);
        due("copy too far", x.copy(0, 3, 1, 0, 3), -13);
        due("copy too far there", x.copy(0, 0, 1, 1, 3), -13);
        due("copy from below", x.copy(0, -1, 1, 0, 1), -13);
        due("copy to below", x.copy(0, 0, 1, -1, 1), -13);
        due("copy of fewer than none", x.copy(0, 0, 1, 0, -1), -13);
        due("copy of very many", x.copy(0, 1, 1, 1, Integer.MAX_VALUE), -13);
        due("copy from very far", x.copy(0, Integer.MAX_VALUE, 1, 1, Integer.MAX_VALUE), -13);
        due("copy of another sort", x.copy(0, 0, 2, 0, 1), -12);
        due("copy of another sort, too far", x.copy(0, 0, 2, 0, 9), -12);
        due("copy from a box", x.copy(3, 0, 0, 0, 1), -12);
        due("copy to a box", x.copy(0, 0, 3, 0, 1), -12);
        x.row(5, 1, 4);
        x.keep(5, 1, 0);
        due("copy from a box where a row of that sort was", x.copy(5, 0, 0, 0, 1), -12);
        due("copy to a box where a row of that sort was", x.copy(0, 0, 5, 0, 1), -12);
        x.keep(5, 0, 0);
        due("copy to nothing where a row of that sort was", x.copy(0, 0, 5, 0, 1), -11);
        due("copy from nothing", x.copy(4, 0, 0, 0, 1), -11);
        due("copy to nothing", x.copy(0, 0, 4, 0, 1), -11);
        due("copy from a box to nothing", x.copy(3, 0, 4, 0, 1), -11);
        due("copy(8, ..)", x.copy(8, 0, 4, 0, 1), -1);
        due("copy(.., -1, ..)", x.copy(4, 0, -1, 0, 1), -1);
        due("nothing has changed", x.element(1, 2), 13);
    }

    private static void weights() {
        BoxSearch x = Check.with("b10 4 90/50 20/50;b20 3 9/100?7;b30 2 9/100!;b40 5 9/100<0;b50 6 9/100>0 50 50;");
        int[] want = {14, 30, 64, 55, 71};
        for (int b = 0; b < 5; b++) {
            x.keep(b, 1, b);
            due("weight(" + b + ")", x.weight(b), want[b]);
        }
        x.row(5, 0, 1);
        due("weight(5) of a row", x.weight(5), -12);
        due("weight(6) of nothing", x.weight(6), -11);
        due("weight(8)", x.weight(8), -1);
        due("weight(-1)", x.weight(-1), -1);
        BoxSearch y = Check.with("b60 7 9/100@44;");
        y.keep(0, 1, 0);
        due("weight(0) of a rival", y.weight(0), 104);
    }

    private static void failures() {
        BoxSearch x = Check.with("b1 1 90/50 20/50!;b2 3 9/50 8/50?7;b3 2 9/50 8/50;b4 5 9/50 8/50<0;",
            "b5 6 9/50 8/50>0 50 50;");
        int[] want = {-15, 1, 2, 3, 104};
        for (int b = 0; b < 5; b++) {
            x.keep(b, 1, b);
            due("toss(" + b + ")", x.toss(b), want[b]);
        }
        x.row(5, 0, 1);
        due("toss(5) of a row", x.toss(5), -12);
        due("toss(6) of nothing", x.toss(6), -11);
        due("toss(8)", x.toss(8), -1);
        due("toss(-1)", x.toss(-1), -1);
        BoxSearch y = Check.with("b1 1 9/100;b1 1 9/50 8/50@44;b1 1 9/100@33;b1 1 9/100>1 50 50;b1 1 9/100<0;");
        int[] then = {-15, 44, -15, -15, -15};
        for (int b = 0; b < 5; b++) {
            y.keep(b, 1, b);
            due("toss(" + b + ") then", y.toss(b), then[b]);
        }
    }
}

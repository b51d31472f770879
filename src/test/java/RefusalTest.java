import java.util.ArrayList;
import java.util.List;

/** The words on refusals: which one is answered where several hold, and that a refused call changes nothing. */
public final class RefusalTest {
    private static final Check CHECK = new Check("RefusalTest");
    private static final long REFUSED = -4611686018427387904L;
    /** What the test writes for IllegalArgumentException and IllegalStateException. */
    private static final long ARGUMENT = -101;
    private static final long STATE = -102;

    private interface Call {
        long of(BoxSearch x);
    }

    private static final class Due {
        final String name;
        final long want;
        final Call call;

        Due(String name, long want, Call call) {
            this.name = name;
            this.want = want;
            this.call = call;
        }
    }

    private static final List<Due> CALLS = new ArrayList<>();

    public static void main(String[] args) {
        textsAndBoxes();
        places();
        plans();
        shelves();
        rowCopies();
        refusedCallsChangeNothing();
        callsThatTellChangeNothing();
        nothingToUndoOrRestore();
        severalAtOnce();
        CHECK.end();
    }

    private static void refused(String name, long want, Call call) {
        CALLS.add(new Due(name, want, call));
    }

    /** 0 is told of by 4, 1 is peeped at and good, 2 is a blind, 3 opens behind 2, 4 is open with its first step. */
    private static BoxSearch rich() {
        BoxSearch x = Check.with("b10 1 90/50 20/50;b12 2 80/40 30/30 5/30?2;b20 1 60/50 10/50!;",
            "b5 1 99/20 0/80<2;b1 1 9/50 3/50>0 70 30;l30;");
        x.open(0, 1);
        x.image();
        x.undo();
        x.peep(1, true);
        x.open(4, 0);
        x.keep(0, 0, 0);
        x.keep(1, 1, 2);
        x.row(2, 0, 3);
        x.row(3, 1, 3);
        x.row(4, 2, 3);
        for (int d = 2; d < 5; d++) {
            for (int i = 0; i < 3; i++) {
                x.put(d, i, i + 1);
            }
        }
        Check.put(x, 5, "l7;b1 1 9/100;");
        x.row(6, 0, 2);
        x.keep(7, 1, 4);
        return x;
    }

    private static void textsAndBoxes() {
        refused("text(-1)", -1, x -> x.text(-1));
        refused("text(8)", -1, x -> x.text(8));
        refused("text(0)", -11, x -> x.text(0));
        refused("text(1)", -12, x -> x.text(1));
        refused("text(3)", -12, x -> x.text(3));
        refused("text(4)", -12, x -> x.text(4));
        refused("text(2): a fault of form", -1000, x -> x.text(2));
        refused("text(5): no room", -2003, x -> x.text(5));
        refused("box(5, 0)", -1, x -> x.box(5, 0));
        refused("box(-1, 0)", -1, x -> x.box(-1, 0));
        refused("box(0, 6)", -1, x -> x.box(0, 6));
        refused("step(5, 0, 0)", -1, x -> x.step(5, 0, 0));
        refused("step(0, 2, 0)", -1, x -> x.step(0, 2, 0));
        refused("step(0, 0, 3)", -1, x -> x.step(0, 0, 3));
        refused("price(5, 1)", -1, x -> x.price(5, 1));
        refused("price(-1, 1)", -1, x -> x.price(-1, 1));
        refused("price(0, 1000)", -1, x -> x.price(0, 1000));
        refused("price(0, -1)", -1, x -> x.price(0, -1));
        refused("bell(100)", -1, x -> x.bell(100));
        refused("bell(-1)", -1, x -> x.bell(-1));
    }

    private static void places() {
        refused("is(5)", -1, x -> x.is(5));
        refused("may(5)", -1, x -> x.may(5));
        refused("open(5, 0)", -1, x -> x.open(5, 0));
        refused("open(0, 2)", -1, x -> x.open(0, 2));
        refused("open(0, -1)", -1, x -> x.open(0, -1));
        refused("open(4, 0): open", -3, x -> x.open(4, 0));
        refused("open(4, 1): open", -3, x -> x.open(4, 1));
        refused("open(4, 2): open, and no such step", -1, x -> x.open(4, 2));
        refused("open(1, 1): good", -3, x -> x.open(1, 1));
        refused("open(3, 0): behind one that is shut", -3, x -> x.open(3, 0));
        refused("peep(5, true)", -1, x -> x.peep(5, true));
        refused("peep(0, true): no peep", -3, x -> x.peep(0, true));
        refused("peep(1, false): not shut", -3, x -> x.peep(1, false));
        refused("peep(4, true): open", -3, x -> x.peep(4, true));
        refused("at(4)", -1, x -> x.at(4));
        refused("count(6)", -1, x -> x.count(6));
    }

    private static void plans() {
        refused("number(5, 0)", REFUSED, x -> x.number(5, 0));
        refused("number(0, 2)", REFUSED, x -> x.number(0, 2));
        refused("likely(5, 0)", -1, x -> x.likely(5, 0));
        refused("likely(0, 2)", -1, x -> x.likely(0, 2));
        refused("edge(5)", -1, x -> x.edge(5));
        refused("edge(4): open", -3, x -> x.edge(4));
        refused("setPrice(5)", -1, x -> x.setPrice(5));
        refused("street(8)", REFUSED, x -> x.street(8));
        refused("street(0)", REFUSED, x -> x.street(0));
        refused("street(1)", REFUSED, x -> x.street(1));
        refused("street(3)", REFUSED, x -> x.street(3));
        refused("street(6): twice", REFUSED, x -> x.street(6));
        refused("street(5): no box", REFUSED, x -> x.street(5));
        refused("run(2, 1)", ARGUMENT, x -> x.run(2, 1));
        refused("run(-1, 1)", ARGUMENT, x -> x.run(-1, 1));
    }

    private static void shelves() {
        refused("keep(8, 0, 0)", -1, x -> x.keep(8, 0, 0));
        refused("keep(2, 2, 0)", -1, x -> x.keep(2, 2, 0));
        refused("keep(2, 1, 5)", -1, x -> x.keep(2, 1, 5));
        refused("keep(1, 1, -1)", -1, x -> x.keep(1, 1, -1));
        refused("row(8, 0, 1)", -1, x -> x.row(8, 0, 1));
        refused("row(2, 3, 1)", -1, x -> x.row(2, 3, 1));
        refused("row(2, 0, 121)", -1, x -> x.row(2, 0, 121));
        refused("row(2, 0, -1)", -14, x -> x.row(2, 0, -1));
        refused("row(1, 0, -1)", -14, x -> x.row(1, 0, -1));
        refused("put(8, 0, 1)", -1, x -> x.put(8, 0, 1));
        refused("put(0, 0, 1)", -11, x -> x.put(0, 0, 1));
        refused("put(1, 0, 1)", -12, x -> x.put(1, 0, 1));
        refused("put(2, 3, 1)", -13, x -> x.put(2, 3, 1));
        refused("put(2, -1, 1)", -13, x -> x.put(2, -1, 1));
        refused("element(8, 0)", ARGUMENT, x -> x.element(8, 0));
        refused("element(-1, 9)", ARGUMENT, x -> x.element(-1, 9));
        refused("element(0, 0)", STATE, x -> x.element(0, 0));
        refused("element(1, 0)", STATE, x -> x.element(1, 0));
        refused("element(2, 3)", STATE, x -> x.element(2, 3));
        refused("weight(8)", -1, x -> x.weight(8));
        refused("weight(0)", -11, x -> x.weight(0));
        refused("weight(2)", -12, x -> x.weight(2));
        refused("toss(8)", -1, x -> x.toss(8));
        refused("toss(0)", -11, x -> x.toss(0));
        refused("toss(2)", -12, x -> x.toss(2));
        refused("toss(1): a blind", -15, x -> x.toss(1));
    }

    private static void rowCopies() {
        refused("copy(8, 0, 2, 0, 1)", -1, x -> x.copy(8, 0, 2, 0, 1));
        refused("copy(2, 0, 8, 0, 1)", -1, x -> x.copy(2, 0, 8, 0, 1));
        refused("copy(0, 0, 2, 0, 1)", -11, x -> x.copy(0, 0, 2, 0, 1));
        refused("copy(2, 0, 0, 0, 1)", -11, x -> x.copy(2, 0, 0, 0, 1));
        refused("copy(1, 0, 2, 0, 1)", -12, x -> x.copy(1, 0, 2, 0, 1));
        refused("copy(2, 0, 1, 0, 1)", -12, x -> x.copy(2, 0, 1, 0, 1));
        refused("copy(2, 0, 3, 0, 1)", -12, x -> x.copy(2, 0, 3, 0, 1));
        refused("copy(2, 0, 5, 12, 3)", -13, x -> x.copy(2, 0, 5, 12, 3));
        refused("copy(2, 1, 5, 0, 3)", -13, x -> x.copy(2, 1, 5, 0, 3));
        refused("copy(2, 0, 5, 0, -1)", -13, x -> x.copy(2, 0, 5, 0, -1));
    }

    private static long answer(BoxSearch x, Call call) {
        try {
            return call.of(x);
        } catch (IllegalArgumentException e) {
            return ARGUMENT;
        } catch (IllegalStateException e) {
            return STATE;
        }
    }

    /** All that can be asked. */
    private static String state(BoxSearch x) {
        StringBuilder s = new StringBuilder();
        for (int what = 0; what < 6; what++) {
            s.append(x.count(what)).append(' ').append(x.at(what)).append(' ');
        }
        s.append(x.mass()).append(' ').append(x.rule()).append(' ').append(x.ruleMean()).append(' ');
        s.append(x.best()).append(' ').append(x.bestMean()).append(' ').append(x.loss()).append(' ');
        s.append(x.breach()).append(' ').append(x.bestStreet()).append(' ');
        for (int b = 0; b < x.count(0); b++) {
            s.append(b).append(": ").append(x.is(b)).append(' ').append(x.may(b)).append(' ');
            for (int what = 0; what < 6; what++) {
                s.append(x.box(b, what)).append(' ');
            }
            for (int i = 0; i < x.box(b, 3); i++) {
                s.append(x.step(b, i, 0)).append('/').append(x.step(b, i, 1)).append('/').append(x.step(b, i, 2));
            }
            s.append(x.number(b, 0)).append(' ').append(x.number(b, 1)).append(' ').append(x.likely(b, 0)).append(' ');
            s.append(x.likely(b, 1)).append(' ').append(x.edge(b)).append(' ').append(x.setPrice(b)).append(' ');
        }
        for (int z = 0; z < 5; z++) {
            s.append(x.run(0, z)).append(' ').append(x.run(1, z)).append(' ');
        }
        return s.append(shelves(x)).toString();
    }

    private static String shelves(BoxSearch x) {
        StringBuilder s = new StringBuilder();
        for (int d = 0; d < 8; d++) {
            s.append(d).append(": ").append(x.weight(d)).append(' ').append(x.toss(d)).append(' ');
            s.append(x.street(d)).append(' ');
            for (int i = 0; i < 121; i++) {
                int k = i;
                int on = d;
                long element = answer(x, y -> y.element(on, k));
                if (element == STATE) {
                    break;
                }
                s.append(element).append(' ');
            }
        }
        return s.toString();
    }

    private static void refusedCallsChangeNothing() {
        CHECK.says("A refused call changes nothing.");
        BoxSearch x = rich();
        String before = state(x);
        BoxSearch imaged = rich();
        imaged.restore();
        for (Due due : CALLS) {
            CHECK.due(due.name, answer(x, due.call), due.want);
            CHECK.due(due.name + " changes nothing", state(x).equals(before));
        }
        // The acts and the image too are what they were.
        CHECK.due("undo()", x.undo(), 1);
        CHECK.due("undo() again", x.undo(), 0);
        CHECK.due("undo() of none", x.undo(), -3);
        CHECK.due("restore()", x.restore(), 5);
        CHECK.due("the image", state(x).equals(state(imaged)));
    }

    private static void callsThatTellChangeNothing() {
        CHECK.says("(all else as now)");
        BoxSearch x = rich();
        BoxSearch y = rich();
        String before = state(x);
        // y is asked one thing ahead of all: it must answer as x does.
        y.setPrice(1);
        CHECK.due("all behind setPrice", state(y).equals(before));
        y = rich();
        y.edge(0);
        CHECK.due("all behind edge", state(y).equals(before));
        y = rich();
        y.run(0, 3);
        y.bestStreet();
        y.breach();
        CHECK.due("all behind others", state(y).equals(before));
        CHECK.due("all once more", state(x).equals(before));
    }

    private static void nothingToUndoOrRestore() {
        CHECK.says("A refused call changes nothing.");
        BoxSearch x = Check.with("b10 1 90/50 20/50;");
        String before = state(x);
        CHECK.due("undo()", x.undo(), -3);
        CHECK.due("restore()", x.restore(), -3);
        CHECK.due("nothing changed", state(x).equals(before));
        BoxSearch y = new BoxSearch();
        String none = state(y);
        CHECK.due("undo() of none", y.undo(), -3);
        CHECK.due("restore() of none", y.restore(), -3);
        CHECK.due("bestStreet() of none", y.bestStreet(), -4);
        CHECK.due("nothing changed there", state(y).equals(none));
    }

    private static void severalAtOnce() {
        CHECK.says("Answers of several refusals are the first one here: -1 no such thing, a number out of range, "
            + "or not as told; -2 no room; -3 it can't be as things stand; -4 none; -11 to -15");
        BoxSearch x = rich();
        CHECK.due("price of no box, out of range", x.price(9, 1000), -1);
        CHECK.due("step: no box, no step, no what", x.step(9, 9, 9), -1);
        CHECK.due("box: no box, no what", x.box(9, 9), -1);
        CHECK.due("open: shut behind, no such step", x.open(3, 2), -1);
        CHECK.due("likely: no box, no what", x.likely(9, 9), -1);
        CHECK.due("keep: no shelf, no box", x.keep(9, 1, 9), -1);
        CHECK.due("row: no sort, too long", x.row(0, 9, 121), -1);
        CHECK.due("row: no shelf, below 0", x.row(9, 0, -1), -1);
        CHECK.due("row: no sort, below 0", x.row(0, 9, -1), -1);
        CHECK.due("put: no shelf, no place", x.put(9, 9, 0), -1);
        CHECK.due("put: nothing, no place", x.put(0, 9, 0), -11);
        CHECK.due("put: a box, no place", x.put(1, 9, 0), -12);
        CHECK.due("element: no shelf, no place", answer(x, y -> y.element(9, 9)), ARGUMENT);
        CHECK.due("copy: no shelf and nothing", x.copy(9, 0, 0, 0, 0), -1);
        CHECK.due("copy: a box and nothing", x.copy(1, 0, 0, 0, 0), -11);
        CHECK.due("copy: another sort, too far", x.copy(2, 9, 3, 9, 9), -12);
        CHECK.says("where numbers that may be below 0 are answered (longs), -4611686018427387904 for all");
        CHECK.due("number: no box, no part", x.number(9, 9), REFUSED);
        CHECK.due("street: no shelf", x.street(-9), REFUSED);
        CHECK.due("street: nothing", x.street(0), REFUSED);
        CHECK.due("street: a box", x.street(1), REFUSED);
        CHECK.due("street: another sort", x.street(4), REFUSED);
    }
}

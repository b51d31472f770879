/** Promises 7 to 13: the place at hand. */
public final class PlaceTest {
    private static final Check CHECK = new Check("PlaceTest");

    public static void main(String[] args) {
        whatMay();
        opening();
        kin();
        peeping();
        undoing();
        telling();
        masses();
        CHECK.end();
    }

    private static void due(String call, long got, long want) {
        CHECK.due(call, got, want);
    }

    private static void whatMay() {
        BoxSearch x = Check.with("b1 3 9/50 2/50;b1 2 8/100<0;b1 1 7/100@3;b1 4 6/50 5/50?2;b1 0 9/100>0 20 80;");
        int[] first = {1, 0, 1, 1, 1};
        for (int b = 0; b < 5; b++) {
            due("may(" + b + ")", x.may(b), first[b]);
            due("is(" + b + ")", x.is(b), 0);
        }
        due("may(5)", x.may(5), -1);
        due("may(-1)", x.may(-1), -1);
        due("is(5)", x.is(5), -1);
        due("is(-1)", x.is(-1), -1);
        due("open(0, 1)", x.open(0, 1), 2);
        int[] then = {0, 1, 0, 1, 1};
        for (int b = 0; b < 5; b++) {
            due("may(" + b + ") then", x.may(b), then[b]);
        }
        due("is(0)", x.is(0), 4);
        x.bell(6);
        due("may(3) with the bell at 6", x.may(3), 0);
        due("peep(3, true) with it", x.peep(3, true), -3);
        due("may(4), no hours", x.may(4), 1);
        x.bell(7);
        due("may(3) with the bell at 7", x.may(3), 1);
        due("peep(3, true) with it", x.peep(3, true), 1);
        due("may(3), peeped at", x.may(3), 1);
        BoxSearch y = Check.with("b1 1 9/100;b1 1 7/100@2;b1 1 8/100;");
        y.open(0, 0);
        due("may of a rival, spent below the latest", y.may(1), 1);
        y.open(2, 0);
        due("may of a rival, spent at the latest", y.may(1), 0);
        due("open of it", y.open(1, 0), -3);
    }

    private static void opening() {
        BoxSearch x = Check.with("b1 1 90/30 20/50 0/20;b1 1 20/60 10/40;b1 1 9/100<1;");
        due("open(3, 0)", x.open(3, 0), -1);
        due("open(-1, 0)", x.open(-1, 0), -1);
        due("open(0, 3)", x.open(0, 3), -1);
        due("open(0, -1)", x.open(0, -1), -1);
        due("open(2, 0)", x.open(2, 0), -3);
        due("open(2, 1)", x.open(2, 1), -1);
        due("open(0, 2)", x.open(0, 2), 0);
        due("is(0)", x.is(0), 4);
        due("open(0, 2) again", x.open(0, 2), -3);
        due("open(1, 0)", x.open(1, 0), 20);
        due("is(1)", x.is(1), 3);
        due("open(2, 0) then", x.open(2, 0), 20);
        due("at(0)", x.at(0), 4 + 3 * 5 + 3 * 25);
        due("at(1)", x.at(1), 20);
        due("at(2)", x.at(2), 3);
        due("at(3)", x.at(3), 3);
        due("count(3)", x.count(3), 3);
    }

    private static void kin() {
        BoxSearch x = Check.with("b1 1 90/30 20/50 0/20;b1 1 20/60 10/40>0 0 100 0;");
        due("open(1, 0)", x.open(1, 0), 20);
        due("open(0, 0): its other chance is 0", x.open(0, 0), -3);
        due("open(0, 2): its other chance is 0", x.open(0, 2), -3);
        due("open(0, 1)", x.open(0, 1), 20);
        x.undo();
        x.undo();
        due("open(1, 1)", x.open(1, 1), 10);
        due("open(0, 0)", x.open(0, 0), 90);
        x.undo();
        x.undo();
        due("open(0, 0) ahead of the kin", x.open(0, 0), 90);
        due("open(1, 0) behind it", x.open(1, 0), 90);
        due("is(0) stays", x.is(0), 3);
    }

    private static void peeping() {
        BoxSearch x = Check.with("b1 1 90/30 20/50 0/20?2;b1 1 20/100?1;b1 1 9/100;");
        due("peep(3, true)", x.peep(3, true), -1);
        due("peep(-1, false)", x.peep(-1, false), -1);
        due("peep(2, true): no peep", x.peep(2, true), -3);
        due("peep(1, false): chance 100", x.peep(1, false), -3);
        due("peep(1, true)", x.peep(1, true), 1);
        due("peep(0, false)", x.peep(0, false), 1);
        due("peep(0, false) again", x.peep(0, false), -3);
        due("is(0)", x.is(0), 2);
        due("is(1)", x.is(1), 1);
        due("at(0)", x.at(0), 2 + 5);
        due("at(2)", x.at(2), 0);
        due("at(3)", x.at(3), 2);
        due("count(4)", x.count(4), 2);
        due("count(3)", x.count(3), 0);
        due("open(0, 0): not good", x.open(0, 0), -3);
        due("open(0, 2)", x.open(0, 2), 0);
        due("is(0) open", x.is(0), 4);
        due("peep(0, true) of an open one", x.peep(0, true), -3);
        due("open(1, 0)", x.open(1, 0), 20);
        due("is(1) open", x.is(1), 3);
        due("count(4) then", x.count(4), 0);
        BoxSearch y = Check.with("b1 1 90/30 20/70?2;");
        y.peep(0, true);
        due("open(0, 1): good", y.open(0, 1), -3);
        due("open(0, 0)", y.open(0, 0), 90);
    }

    private static void undoing() {
        BoxSearch x = Check.with("b1 1 90/30 20/70?2;b1 2 50/60 40/40;");
        due("undo()", x.undo(), -3);
        x.open(1, 1);
        x.peep(0, false);
        x.open(0, 1);
        due("has", x.at(1), 40);
        due("undo() of three", x.undo(), 2);
        due("peeped again", x.is(0), 2);
        due("undo() of two", x.undo(), 1);
        due("shut again", x.is(0), 0);
        due("has then", x.at(1), 40);
        due("undo() of one", x.undo(), 0);
        due("has nothing", x.at(1), 0);
        due("spent nothing", x.at(2), 0);
        due("undo() of none", x.undo(), -3);
        due("open(1, 0)", x.open(1, 0), 50);
        due("a refused act", x.open(1, 0), -3);
        due("is no act", x.at(3), 1);
        x.bell(0);
        due("undo() whatever the bell", x.undo(), 0);
        // As many acts as there can be: five peeps and five openings.
        BoxSearch y = Check.with("b1 1 9/50 2/50?1;b1 1 9/50 2/50?1;b1 1 9/50 2/50?1;",
            "b1 1 9/50 2/50?1;b1 1 9/50 2/50?1;");
        for (int b = 0; b < 5; b++) {
            due("peep(" + b + ")", y.peep(b, true), 1);
            due("open(" + b + ", 0)", y.open(b, 0), 9);
        }
        due("at(3)", y.at(3), 10);
        due("at(0)", y.at(0), 3 * 781);
        for (int left = 9; left >= 0; left--) {
            due("undo() to " + left, y.undo(), left);
        }
        due("at(0) at last", y.at(0), 0);
    }

    private static void telling() {
        BoxSearch x = new BoxSearch();
        for (int what = 0; what < 4; what++) {
            due("at(" + what + ") of nothing", x.at(what), 0);
        }
        due("at(4)", x.at(4), -1);
        due("at(-1)", x.at(-1), -1);
    }

    private static void masses() {
        due("mass() of nothing", new BoxSearch().mass(), 1);
        BoxSearch x = Check.with("b1 1 90/30 20/70?2;b1 2 50/60 40/40?3;b1 1 9/100;");
        due("mass()", x.mass(), 1000000);
        x.peep(0, true);
        due("mass() with a good one", x.mass(), 300000);
        x.peep(1, false);
        due("mass() with one that is not", x.mass(), 30L * 40 * 100);
        x.open(2, 0);
        due("mass() with an open one", x.mass(), 1200);
        x.open(0, 0);
        x.open(1, 1);
        due("mass() with all open", x.mass(), 1);
        BoxSearch y = Check.with("b1 1 9/100;b1 1 9/100;b1 1 9/100;b1 1 9/100;b1 1 9/100;");
        due("mass() of five", y.mass(), 10000000000L);
    }
}

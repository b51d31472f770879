/** Promises 7 to 13 and the words on a place: a test for each sentence that names a boundary. */
public final class BoundaryPlaceTest {
    private static final Check CHECK = new Check("BoundaryPlaceTest");
    private static final int[] FAR = {Integer.MIN_VALUE, -1000, -1, 1000, Integer.MAX_VALUE};

    public static void main(String[] args) {
        howBoxesAre();
        whatOneHas();
        twentyWorths();
        firstPlace();
        codes();
        spent();
        bellBoundary();
        behindBoundary();
        rivalBoundary();
        peepIfMay();
        chancesByKin();
        chancesOfPeeped();
        peepingTakesNoHours();
        masses();
        isRefusals();
        mayRefusals();
        openRefusals();
        peepRefusals();
        undoAll();
        undoRefusals();
        atRefusals();
        CHECK.end();
    }

    private static void says(String words) {
        CHECK.says(words);
    }

    private static void due(String call, long got, long want) {
        CHECK.due(call, got, want);
    }

    private static void howBoxesAre() {
        says("each BOX is SHUT (0), PEEPED and found GOOD (1), PEEPED and not (2), OPEN with its first STEP (3), "
            + "OPEN with another one (4)");
        BoxSearch x = Check.with("b1 1 9/50 8/50;b1 1 9/50 8/50?1;b1 1 9/50 8/50?1;b1 1 9/50 8/50;",
            "b1 1 9/25 8/25 7/25 6/25;");
        x.peep(1, true);
        x.peep(2, false);
        x.open(3, 0);
        x.open(4, 1);
        for (int b = 0; b < 5; b++) {
            due("is(" + b + ")", x.is(b), b);
        }
        x.undo();
        x.open(4, 3);
        due("is(4) with its last step", x.is(4), 4);
        x.open(1, 0);
        x.open(2, 1);
        due("is(1) good and open", x.is(1), 3);
        due("is(2) not good and open", x.is(2), 4);
    }

    private static void whatOneHas() {
        says("the greatest WORTH seen in OPEN ones (0 without)");
        BoxSearch x = Check.with("b1 1 999/50 5/50;b1 1 9/50 0/50?1;b1 1 7/50 6/50!;");
        due("without", x.at(1), 0);
        x.peep(1, true);
        due("with a good one that is not open", x.at(1), 0);
        due("open(2, 1)", x.open(2, 1), 6);
        due("open(0, 1): a lesser one", x.open(0, 1), 6);
        due("open(1, 0): a greater one", x.open(1, 0), 9);
        due("at(1)", x.at(1), 9);
        x.undo();
        x.undo();
        due("at(1) without it", x.at(1), 6);
        due("open(0, 0)", x.open(0, 0), 999);
        BoxSearch y = Check.with("b1 1 0/100;");
        due("open(0, 0) of 0", y.open(0, 0), 0);
    }

    /** As many worths as there can be, each another one. */
    private static void twentyWorths() {
        says("1 .. 4 STEPS: a WORTH");
        BoxSearch x = Check.with("b1 1 990/25 500/25 300/25 10/25;b1 1 991/25 501/25 301/25 11/25;",
            "b1 1 992/25 502/25 302/25 12/25;b1 1 993/25 503/25 303/25 13/25;b1 1 994/25 504/25 304/25 14/25;");
        int[] base = {990, 500, 300, 10};
        for (int b = 0; b < 5; b++) {
            for (int i = 0; i < 4; i++) {
                due("open(" + b + ", " + i + ")", x.open(b, i), base[i] + b);
                due("likely to be taken", x.best() == 0 ? x.likely(b, 1) : x.mass(), x.mass());
                x.undo();
            }
        }
        for (int b = 0; b < 5; b++) {
            due("open(" + b + ", 3) one by one", x.open(b, 3), 10 + b);
        }
        due("likely(4, 1)", x.likely(4, 1), 1);
    }

    private static void firstPlace() {
        says("The first PLACE: all SHUT.");
        BoxSearch x = Check.with("b1 1 9/50 8/50;b1 1 9/50 8/50?1;");
        due("is(0)", x.is(0), 0);
        due("is(1)", x.is(1), 0);
        for (int what = 0; what < 4; what++) {
            due("at(" + what + ")", x.at(what), 0);
        }
    }

    private static void codes() {
        says("CODE: how all are, as digits to the base 5, BOX 0's the lowest.");
        BoxSearch x = Check.with("b1 1 9/50 8/50;b1 1 9/50 8/50;b1 1 9/50 8/50;b1 1 9/50 8/50;b1 1 9/50 8/50;");
        int power = 1;
        int sum = 0;
        for (int b = 0; b < 5; b++) {
            x.open(b, 0);
            due("at(0) with the first step of " + b, x.at(0), sum + 3 * power);
            x.undo();
            x.open(b, 1);
            sum += 4 * power;
            due("at(0) with the second step of " + b, x.at(0), sum);
            power *= 5;
        }
        due("at(0) with all", x.at(0), 3124);
        BoxSearch y = Check.with("b1 1 9/50 8/50?1;b1 1 9/50 8/50?1;");
        y.peep(1, false);
        due("at(0), peeped and not", y.at(0), 10);
        y.peep(0, true);
        due("at(0), peeped and good too", y.at(0), 11);
    }

    private static void spent() {
        says("SPENT are HOURS of all OPEN ones together.");
        BoxSearch x = Check.with("b1 9 9/100;b1 9 9/100;b1 9 9/100;b1 9 9/100?1;b1 9 9/100;");
        due("at(2)", x.at(2), 0);
        x.peep(3, true);
        due("at(2) with a peep", x.at(2), 0);
        for (int b = 0; b < 5; b++) {
            x.open(b, 0);
            due("at(2) of " + b, x.at(2), 9 * b + 9);
        }
        x.undo();
        due("at(2) behind undo", x.at(2), 36);
        BoxSearch y = Check.with("b1 0 9/100;");
        y.open(0, 0);
        due("at(2) of no hours", y.at(2), 0);
    }

    private static void bellBoundary() {
        says("if SPENT and its HOURS are not above the BELL");
        BoxSearch x = Check.with("b1 4 9/100;b1 5 9/50 8/50?1;b1 0 9/100;");
        x.open(0, 0);
        int[][] want = {{99, 1}, {10, 1}, {9, 1}, {8, 0}, {4, 0}, {3, 0}, {0, 0}};
        for (int[] w : want) {
            x.bell(w[0]);
            due("may(1), bell " + w[0], x.may(1), w[1]);
            due("open(1, 0), bell " + w[0], x.open(1, 0), w[1] == 1 ? 9 : -3);
            if (w[1] == 1) {
                x.undo();
            }
        }
        x.bell(4);
        due("may(2), no hours, at the bell", x.may(2), 1);
        x.bell(3);
        due("may(2), no hours, behind the bell", x.may(2), 0);
        BoxSearch y = Check.with("l0;b1 0 9/100;b1 1 9/100;");
        due("may(0) at bell 0", y.may(0), 1);
        due("may(1) at bell 0", y.may(1), 0);
        BoxSearch z = Check.with("b1 4 9/50 8/50?1;");
        z.peep(0, true);
        z.bell(3);
        due("may of a peeped one", z.may(0), 0);
        due("open of it", z.open(0, 0), -3);
        z.bell(4);
        due("may of a peeped one at the bell", z.may(0), 1);
    }

    private static void behindBoundary() {
        says("a BEHIND only if that BOX is OPEN");
        BoxSearch x = Check.with("b1 1 9/50 8/50?1;b1 1 9/100<0;b1 1 9/100<1;");
        due("may(1)", x.may(1), 0);
        due("open(1, 0)", x.open(1, 0), -3);
        x.peep(0, true);
        due("may(1) behind one that is good, but not open", x.may(1), 0);
        x.open(0, 0);
        due("may(1) behind an open one", x.may(1), 1);
        due("may(2) behind one that is shut", x.may(2), 0);
        x.undo();
        x.undo();
        x.peep(0, false);
        due("may(1) behind one that is not good", x.may(1), 0);
        x.open(0, 1);
        due("may(1) behind one with another step", x.may(1), 1);
        x.open(1, 0);
        due("may(2) then", x.may(2), 1);
        x.bell(2);
        due("may(2) by the bell", x.may(2), 0);
        x.bell(3);
        due("may(2) at the bell", x.may(2), 1);
    }

    private static void rivalBoundary() {
        says("a RIVAL only if SPENT is below LATEST");
        BoxSearch x = Check.with("b1 1 9/100;b1 0 9/100;b1 9 7/100@1;b1 0 7/100@2;");
        due("spent 0, latest 1, whatever its own hours", x.may(2), 1);
        x.open(1, 0);
        due("spent 0 still", x.may(2), 1);
        x.open(0, 0);
        due("spent 1, latest 1", x.may(2), 0);
        due("open of it", x.open(2, 0), -3);
        due("spent 1, latest 2", x.may(3), 1);
        x.undo();
        x.bell(8);
        due("the bell holds for rivals too", x.may(2), 0);
        BoxSearch y = Check.with("b1 9 9/100;b1 9 9/100;b1 9 9/100;b1 9 9/100;b1 1 9/100@36;");
        for (int b = 0; b < 4; b++) {
            due("spent " + 9 * b + ", latest 36", y.may(4), 1);
            y.open(b, 0);
        }
        due("spent 36, latest 36", y.may(4), 0);
    }

    private static void peepIfMay() {
        says("A SHUT PEEP MAY be peeped at, if it MAY be opened.");
        BoxSearch x = Check.with("b1 3 9/100;b1 2 9/50 8/50?1;l5;");
        x.open(0, 0);
        x.bell(4);
        due("peep(1, true) above the bell", x.peep(1, true), -3);
        x.bell(5);
        due("peep(1, true) at the bell", x.peep(1, true), 1);
        due("peep(1, true) again", x.peep(1, true), -3);
        due("peep(1, false) of a good one", x.peep(1, false), -3);
    }

    private static void chancesByKin() {
        says("the OTHER ones while that KIN is OPEN with its first STEP; else its own.");
        BoxSearch x = Check.with("b0 0 9/50 8/30 7/20;b0 0 2/50 1/50>0 0 0 100;");
        int[] own = {9, 8, 7};
        int[] other = {-3, -3, 7};
        for (int i = 0; i < 3; i++) {
            due("open(0, " + i + "), the kin shut", x.open(0, i), own[i]);
            x.undo();
            x.open(1, 1);
            due("open(0, " + i + "), the kin open with another", x.open(0, i), own[i]);
            x.undo();
            if (x.at(3) > 0) {
                x.undo();
            }
            x.open(1, 0);
            int got = x.open(0, i);
            due("open(0, " + i + "), the kin open with its first", got, other[i]);
            while (x.undo() > 0) {
                continue;
            }
        }
        // By its own: 9 less nothing; told of: (0 + 0 + 700) by 100.
        due("number(0, 0), the kin shut", x.number(0, 0), 9);
        x.open(1, 0);
        due("number(0, 0), the kin open with its first", x.number(0, 0), 7);
        x.undo();
        x.open(1, 1);
        due("number(0, 0), the kin open with another", x.number(0, 0), 9);
        // A kin of one step is always open with its first.
        BoxSearch y = Check.with("b0 0 9/50 8/50;b0 0 1/100>0 0 100;");
        y.open(1, 0);
        due("open(0, 0) by a kin of one step", y.open(0, 0), -3);
        due("open(0, 1) by a kin of one step", y.open(0, 1), 8);
        // A kin of a kin: 2 tells of 1, 1 of 0.
        BoxSearch z = Check.with("b0 0 9/50 8/50;b0 0 2/50 1/50>0 0 100;b0 0 3/50 1/50>1 100 0;");
        z.open(2, 0);
        due("open(1, 1) told of", z.open(1, 1), -3);
        due("open(1, 0) told of", z.open(1, 0), 3);
        due("open(0, 0) told of", z.open(0, 0), -3);
        due("open(0, 1) told of", z.open(0, 1), 8);
    }

    private static void chancesOfPeeped() {
        says("Of one that is PEEPED: its first STEP alone, if GOOD; the others else; as they are to one another.");
        BoxSearch x = Check.with("b0 0 9/40 8/30 6/20 0/10?0;");
        x.peep(0, true);
        due("open(0, 1), good", x.open(0, 1), -3);
        due("open(0, 2), good", x.open(0, 2), -3);
        due("open(0, 3), good", x.open(0, 3), -3);
        due("bestMean(), good: 9", x.bestMean(), 9 * 40);
        due("open(0, 0), good", x.open(0, 0), 9);
        x.undo();
        x.undo();
        x.peep(0, false);
        due("open(0, 0), not good", x.open(0, 0), -3);
        due("bestMean(), not good: 8 by 30, 6 by 20, 0 by 10", x.bestMean(), 8 * 30 + 6 * 20);
        due("open(0, 1), not good", x.open(0, 1), 8);
        x.undo();
        due("open(0, 3), not good", x.open(0, 3), 0);
    }

    private static void peepingTakesNoHours() {
        says("Opening costs PRICE, peeping PEEP PRICE (no HOURS).");
        BoxSearch x = Check.with("b5 1 90/50 0/50?7;b5 1 80/100;l1;");
        x.peep(0, true);
        due("at(2)", x.at(2), 0);
        due("may(1)", x.may(1), 1);
        due("bestMean(): 90 less 5", x.bestMean(), 85 * 5000);
        x.undo();
        // Peeping first: 85 or 75, less 7; opening 1: 75.
        due("bestMean() of the first place", x.bestMean(), 75 * 10000);
        x.price(1, 70);
        // Peeping: half of 85, half of 10, less 7: 40.5; opening 0: 40 (the bell lets only one); opening 1: 10.
        due("best() when peeping is better", x.best(), 20);
        due("bestMean() then", x.bestMean(), 405 * 1000);
    }

    private static void masses() {
        says("the product of 100 for each SHUT one, of CHANCE of its first STEP for each GOOD one, "
            + "100 less that for each that is PEEPED and not");
        due("of no boxes", new BoxSearch().mass(), 1);
        BoxSearch x = Check.with("b1 1 9/1 8/99?0;b1 1 9/99 8/1?0;b1 1 9/100?0;");
        due("all shut", x.mass(), 1000000);
        x.peep(0, true);
        due("chance 1, good", x.mass(), 10000);
        x.undo();
        x.peep(0, false);
        due("chance 1, not", x.mass(), 990000);
        x.peep(1, false);
        due("chance 99, not", x.mass(), 9900);
        x.undo();
        x.peep(1, true);
        due("chance 99, good", x.mass(), 99 * 99 * 100);
        x.peep(2, true);
        due("chance 100, good", x.mass(), 99 * 99 * 100);
        x.open(2, 0);
        due("open", x.mass(), 99 * 99);
        BoxSearch y = Check.with("b1 1 9/100;b1 1 9/100;b1 1 9/100;b1 1 9/100;b1 1 9/100;");
        due("of five: more than an int", y.mass(), 10000000000L);
        // What a kin tells doesn't matter for that.
        BoxSearch z = Check.with("b1 1 9/50 8/50;b1 1 9/100>0 0 100;");
        z.open(1, 0);
        due("of one that is told of", z.mass(), 100);
    }

    private static void isRefusals() {
        says("How a BOX is at THE PLACE. -1.");
        BoxSearch x = Check.with("b1 1 9/100;b1 1 9/100;");
        due("is(1)", x.is(1), 0);
        due("is(2)", x.is(2), -1);
        for (int far : FAR) {
            due("is(" + far + ")", x.is(far), -1);
        }
    }

    private static void mayRefusals() {
        says("Whether a BOX MAY be opened: 1, 0 (OPEN ones not). -1.");
        BoxSearch x = Check.with("b1 1 9/100;b1 0 9/100;");
        due("may(1)", x.may(1), 1);
        due("may(2)", x.may(2), -1);
        x.open(1, 0);
        due("may(1), open, no hours", x.may(1), 0);
        for (int far : FAR) {
            due("may(" + far + ")", x.may(far), -1);
        }
    }

    private static void openRefusals() {
        says("-1; -3: it MAY not, or can't show that (PEEPED; CHANCE 0).");
        BoxSearch x = Check.with("b1 1 9/50 8/50;b1 1 9/100<0;b1 1 9/1 8/99?0;");
        for (int far : FAR) {
            due("open(" + far + ", 0)", x.open(far, 0), -1);
            due("open(0, " + far + ")", x.open(0, far), -1);
        }
        due("open(3, 0)", x.open(3, 0), -1);
        due("open(0, 2)", x.open(0, 2), -1);
        due("open(1, 0): it may not", x.open(1, 0), -3);
        due("open(1, 1): no such step goes ahead of that", x.open(1, 1), -1);
        x.open(0, 1);
        due("open(0, 0): open", x.open(0, 0), -3);
        due("open(0, 2): no such step, and open", x.open(0, 2), -1);
        x.peep(2, true);
        due("open(2, 1): good", x.open(2, 1), -3);
        due("open(2, 2): no such step, and good", x.open(2, 2), -1);
        due("at(3)", x.at(3), 2);
        due("open(2, 0)", x.open(2, 0), 9);
        BoxSearch y = Check.with("b1 1 9/50 8/50;b1 1 7/100>0 0 100;");
        y.open(1, 0);
        due("open(0, 0): chance 0", y.open(0, 0), -3);
        due("is(0)", y.is(0), 0);
    }

    private static void peepRefusals() {
        says("-1; -3: no PEEP, not SHUT, it MAY not, or it can't be found so (CHANCE 100).");
        BoxSearch x = Check.with("b1 1 9/100?0;b1 1 9/99 8/1?0;b1 1 9/1 8/99?0;b1 1 9/50 8/50;");
        for (int far : FAR) {
            due("peep(" + far + ", true)", x.peep(far, true), -1);
            due("peep(" + far + ", false)", x.peep(far, false), -1);
        }
        due("peep(4, true)", x.peep(4, true), -1);
        due("peep(3, true): no peep", x.peep(3, true), -3);
        due("peep(3, false): no peep", x.peep(3, false), -3);
        due("peep(0, false): chance 100", x.peep(0, false), -3);
        due("is(0)", x.is(0), 0);
        due("peep(0, true): chance 100", x.peep(0, true), 1);
        due("peep(1, false): chance 99", x.peep(1, false), 1);
        due("peep(2, true): chance 1", x.peep(2, true), 1);
        due("peep(2, false): not shut", x.peep(2, false), -3);
        x.open(2, 0);
        due("peep(2, true): open", x.peep(2, true), -3);
        x.bell(1);
        due("at(2)", x.at(2), 1);
        BoxSearch y = Check.with("b1 2 9/50 8/50?0;l1;");
        due("peep(0, true): it may not", y.peep(0, true), -3);
        String[] kinds = {"!", "@5"};
        for (String kind : kinds) {
            due("peep at '" + kind + "'", Check.with("b1 1 9/50 8/50" + kind + ";").peep(0, true), -3);
        }
        BoxSearch z = Check.with("b1 1 9/50 8/50;b1 1 9/50 8/50<0;b1 1 9/50 8/50>0 50 50;");
        z.open(0, 0);
        due("peep at a behind", z.peep(1, true), -3);
        due("peep at a kin", z.peep(2, true), -3);
    }

    private static void undoAll() {
        says("such acts may be UNDONE, the latest first, all");
        BoxSearch x = Check.with("b1 1 9/50 8/50?1;b1 1 9/50 8/50?1;b1 1 9/50 8/50?1;",
            "b1 1 9/50 8/50?1;b1 1 9/50 8/50?1;");
        int[] codes = new int[11];
        for (int b = 0; b < 5; b++) {
            x.peep(4 - b, b % 2 == 0);
            codes[b + 1] = x.at(0);
        }
        for (int b = 0; b < 5; b++) {
            x.open(b, b % 2 == 0 ? 0 : 1);
            codes[b + 6] = x.at(0);
        }
        due("at(3)", x.at(3), 10);
        for (int left = 9; left >= 0; left--) {
            due("undo()", x.undo(), left);
            due("at(0) with " + left, x.at(0), codes[left]);
            due("at(3) with " + left, x.at(3), left);
        }
        due("undo() of none", x.undo(), -3);
    }

    private static void undoRefusals() {
        says("-3: there is none.");
        BoxSearch x = new BoxSearch();
        due("undo() of a new object", x.undo(), -3);
        Check.tell(x, "b1 1 9/50 8/50?1;");
        due("undo() of the first place", x.undo(), -3);
        x.open(0, 2);
        x.peep(0, true);
        x.peep(0, true);
        due("undo() of one act, as refused ones are none", x.undo(), 0);
        due("undo() of none", x.undo(), -3);
        due("undo() of none again", x.undo(), -3);
        due("at(3)", x.at(3), 0);
    }

    private static void atRefusals() {
        says("3 how many acts. -1.");
        BoxSearch x = Check.with("b1 1 9/100;");
        due("at(3)", x.at(3), 0);
        due("at(4)", x.at(4), -1);
        for (int far : FAR) {
            due("at(" + far + ")", x.at(far), -1);
        }
    }
}

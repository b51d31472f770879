/** Promises 14 to 23: numbers and plans, reckoned by hand. */
public final class PlanTest {
    private static final long REFUSED = -4611686018427387904L;
    private static final Check CHECK = new Check("PlanTest");

    public static void main(String[] args) {
        nothing();
        numbers();
        rules();
        bestTies();
        blinds();
        kinOfBlind();
        losses();
        breaches();
        breachBehind();
        likelies();
        edges();
        setPrices();
        CHECK.end();
    }

    private static void due(String call, long got, long want) {
        CHECK.due(call, got, want);
    }

    private static void nothing() {
        BoxSearch x = new BoxSearch();
        due("number(0, 0)", x.number(0, 0), REFUSED);
        due("rule()", x.rule(), -4);
        due("ruleMean()", x.ruleMean(), 0);
        due("best()", x.best(), 0);
        due("bestMean()", x.bestMean(), 0);
        due("loss()", x.loss(), 0);
        due("breach()", x.breach(), -4);
        due("likely(0, 0)", x.likely(0, 0), -1);
        due("edge(0)", x.edge(0), -1);
        due("setPrice(0)", x.setPrice(0), -1);
    }

    private static void numbers() {
        // (30 * 90 - 500) by 30; (2700 + 70 * 40 - 500) by 100 is less.
        BoxSearch x = Check.with("b5 1 90/30 40/70;b10 1 30/100?2;b50 1 10/50 4/50;b7 1 7/100;");
        due("number(0, 0)", x.number(0, 0), 220);
        due("number(0, 1)", x.number(0, 1), 3);
        due("number(1, 0)", x.number(1, 0), 20);
        due("number(1, 1)", x.number(1, 1), 1);
        // Below 0 it is greatest with all steps: (700 - 5000) by 100.
        due("number(2, 0)", x.number(2, 0), -43);
        due("number(2, 1)", x.number(2, 1), 1);
        due("number(3, 0) of nought", x.number(3, 0), 0);
        due("number(3, 1) of nought", x.number(3, 1), 1);
        due("number(0, 2)", x.number(0, 2), REFUSED);
        due("number(0, -1)", x.number(0, -1), REFUSED);
        due("number(4, 0)", x.number(4, 0), REFUSED);
        due("number(-1, 0)", x.number(-1, 0), REFUSED);
        x.peep(1, true);
        due("number(1, 0) as if shut", x.number(1, 0), 20);
        x.open(0, 1);
        due("number(0, 0) of an open one", x.number(0, 0), 220);
        // Told of: (0 * 60 + 100 * 20 - 300) by 100, as the first step alone has no chance.
        BoxSearch y = Check.with("b3 1 60/50 20/50;b1 1 9/50 8/50>0 0 100;");
        due("number(0, 0) by its own chances", y.number(0, 0), 54);
        y.open(1, 1);
        due("number(0, 0) while the kin shows another step", y.number(0, 0), 54);
        y.undo();
        y.open(1, 0);
        due("number(0, 0) by the other chances", y.number(0, 0), 17);
        y.price(0, 4);
        due("number(0, 0) with another price", y.number(0, 0), 16);
    }

    private static void rules() {
        BoxSearch x = Check.with("b10 1 30/100;b10 1 30/100;b1 1 25/100<0;");
        due("rule(): of several the least", x.rule(), 0);
        x.open(1, 0);
        due("rule(): not above what one has", x.rule(), -4);
        x.undo();
        due("ruleMean()", x.ruleMean(), 20L * 1000000);
        BoxSearch y = Check.with("b10 1 30/50 0/50?1;b1 1 9/100;");
        due("rule(): 10 above 8", y.rule(), 0);
        y.peep(0, false);
        due("rule(): opens what is peeped, as if shut", y.rule(), 0);
        due("ruleMean() then: -10, then 8", y.ruleMean(), (-10 + 8) * 50 * 100L);
        y.bell(0);
        due("rule() with the bell", y.rule(), -4);
        due("ruleMean() with it", y.ruleMean(), 0);
    }

    private static void bestTies() {
        due("stopping ahead of opening", Check.with("b9 1 9/100;").best(), 0);
        due("the least box ahead", Check.with("b1 1 9/100;b1 1 9/100;").best(), 10);
        due("opening ahead of peeping", Check.with("b1 1 9/50 8/50?0;").best(), 10);
        due("peeping where it helps", Check.with("b5 1 9/50 1/50?0;").best(), 20);
        due("the least to peep at", Check.with("b5 1 9/50 1/50?0;b5 1 9/50 1/50?0;").best(), 20);
        due("what one has ahead of a blind", Check.with("b1 1 0/100!;").best(), 0);
        due("the least blind", Check.with("b9 1 5/100!;b9 1 5/100!;").best(), 30);
        due("a blind ahead of opening", Check.with("b0 1 5/100!;b0 1 5/100;").best(), 30);
        BoxSearch x = Check.with("b0 1 7/100;b9 1 7/100!;");
        x.open(0, 0);
        due("what one has ahead of a blind as good", x.best(), 0);
    }

    private static void blinds() {
        BoxSearch x = Check.with("b1 9 90/50 10/50!;b1 1 40/100;l5;");
        due("a blind is taken whatever its hours", x.best(), 30);
        due("bestMean()", x.bestMean(), 50 * 10000L);
        due("ruleMean() without blinds", x.ruleMean(), 39 * 10000L);
        due("loss()", x.loss(), 11 * 10000L);
        due("breach()", x.breach(), 0);
        due("likely(0, 1)", x.likely(0, 1), 10000);
        due("likely(0, 0)", x.likely(0, 0), 0);
        x.bell(9);
        due("best() with time for one: 49 is less than 50", x.best(), 30);
        x.bell(10);
        // Opened first: 90, or 10 and then 40 less 1.
        due("best() with time for both", x.best(), 10);
        due("bestMean() with time for both", x.bestMean(), 10000 * -1L + 50 * (90 * 100) + 50 * (39 * 100));
        x.open(0, 1);
        due("an open blind is not taken shut", x.best(), 11);
    }

    private static void kinOfBlind() {
        BoxSearch x = Check.with("b1 1 90/50 10/50!;b0 0 2/40 1/60>0 100 0;");
        // Told of (40 of 100) the blind is worth 90, else 50.
        due("best()", x.best(), 11);
        x.open(1, 0);
        due("best() told of", x.best(), 30);
        due("bestMean() told of", x.bestMean(), 9000);
        x.undo();
        x.open(1, 1);
        due("best() else", x.best(), 30);
        due("bestMean() else", x.bestMean(), 5000);
        x.undo();
        due("bestMean()", x.bestMean(), 40 * 9000 + 60 * 5000);
        due("likely(0, 1)", x.likely(0, 1), 10000);
        due("likely(1, 0)", x.likely(1, 0), 10000);
    }

    private static void losses() {
        BoxSearch x = Check.with("b10 1 100/50 0/50?3;b9 1 80/50 7/50!;");
        // Peeping, then 90 or 43.5; the rule: 100 or the blind opened behind.
        due("bestMean()", x.bestMean(), (-30L + 450 + 435 / 2) * 1000 + 500);
        due("loss()", x.loss(), x.bestMean() - x.ruleMean());
        x.peep(0, true);
        due("bestMean() with a good one", x.bestMean(), 90 * 5000L);
        due("ruleMean() with a good one", x.ruleMean(), 90 * 5000L);
        due("loss() with a good one", x.loss(), 0);
    }

    private static void breaches() {
        // The rule opens 0 (80), and 1 behind it, but a peep at 1 would be better then.
        BoxSearch x = Check.with("b10 1 90/100;b20 1 150/60 0/40?1;");
        due("number(0, 0)", x.number(0, 0), 80);
        due("number(1, 0)", x.number(1, 0), 350);
        due("number(1, 1)", x.number(1, 1), 3);
        due("rule()", x.rule(), 1);
        due("breach()", x.breach(), 0);
        x.peep(1, true);
        due("breach() with a good one", x.breach(), -4);
    }

    private static void breachBehind() {
        // Step by step: box 0 first; where it shows 50, the rule goes on to the peep without peeping.
        BoxSearch x = Check.with("b1 1 200/40 50/60;b20 1 140/40 0/60?1;");
        due("rule()", x.rule(), 0);
        due("breach() behind the second step", x.breach(), 4);
        x.open(0, 0);
        due("breach() behind the first", x.breach(), -4);
        x.undo();
        x.open(0, 1);
        due("breach() at hand", x.breach(), 4);
        x.peep(1, false);
        due("rule() goes on, as if shut", x.rule(), 1);
        due("breach() where it isn't good", x.breach(), 4 + 2 * 5);
    }

    private static void likelies() {
        BoxSearch x = Check.with("b0 1 9/50 4/50;b0 1 9/50 4/50;b0 1 9/50 4/50;");
        due("opened 0", x.likely(0, 0), 1000000);
        due("opened 1", x.likely(1, 0), 500000);
        due("opened 2", x.likely(2, 0), 250000);
        // All at 4: the least of them is taken.
        due("taken 0", x.likely(0, 1), 500000 + 125000);
        due("taken 1", x.likely(1, 1), 250000);
        due("taken 2", x.likely(2, 1), 125000);
        due("likely(0, 2)", x.likely(0, 2), -1);
        due("likely(0, -1)", x.likely(0, -1), -1);
        due("likely(3, 0)", x.likely(3, 0), -1);
        due("likely(-1, 1)", x.likely(-1, 1), -1);
        x.open(1, 1);
        due("opened 1 from there on", x.likely(1, 0), 0);
        due("opened 0 from there on", x.likely(0, 0), 10000);
        due("taken 0 if it shows 9, or 4 too", x.likely(0, 1), 5000 + 2500);
        due("taken 1", x.likely(1, 1), 0);
        due("taken 2", x.likely(2, 1), 2500);
        BoxSearch y = Check.with("b5 1 5/100;b0 1 0/100;");
        due("none is taken", y.likely(0, 1) + y.likely(1, 1), 0);
        y.open(1, 0);
        due("one that showed 0 is taken", y.likely(1, 1), 100);
        BoxSearch z = Check.with("b5 1 90/20 0/80?1;");
        due("opened behind a peep", z.likely(0, 0), 20);
        due("taken behind a peep", z.likely(0, 1), 20);
        z.peep(0, true);
        due("opened when good", z.likely(0, 0), 20);
        z.undo();
        z.peep(0, false);
        due("opened when not", z.likely(0, 0), 0);
    }

    private static void edges() {
        BoxSearch x = Check.with("b5 1 50/100;b10 1 30/100;b1 1 9/100<0;b1 1 60/50 0/50?2;");
        due("edge(4)", x.edge(4), -1);
        due("edge(-1)", x.edge(-1), -1);
        due("edge(2): it may not", x.edge(2), 0);
        x.open(0, 0);
        due("edge(0): open", x.edge(0), -3);
        // 55 less the price; peeping is 53 less half of it: as good at 4, better at 5.
        due("edge(3)", x.edge(3), 5);
        due("the price stays", x.box(3, 1), 1);
        due("best() stays", x.best(), 13);
        // For nothing it does no harm, and is the least box; for 1 it does.
        due("edge(1)", x.edge(1), 1);
        x.peep(3, true);
        due("edge(3) of a good one", x.edge(3), 10);
        x.undo();
        x.peep(3, false);
        due("edge(3) of one that is not", x.edge(3), 0);
        BoxSearch y = Check.with("b5 1 999/100;");
        due("edge(0) of 999", y.edge(0), 999);
    }

    private static void setPrices() {
        BoxSearch x = Check.with("b5 1 950/50 0/50;b7 2 300/100;");
        // At 300 it is opened first: 0.5 * 950 + 0.5 * 293 - 300 is above 293; at 400 not.
        due("setPrice(0)", x.setPrice(0), 300);
        due("the price stays", x.box(0, 1), 5);
        // Opened behind 0's second step for up to 200: at 300 it is worth nothing.
        due("setPrice(1)", x.setPrice(1), 200);
        due("setPrice(2)", x.setPrice(2), -1);
        due("setPrice(-1)", x.setPrice(-1), -1);
        x.open(0, 0);
        due("from the first place, wherever one is", x.setPrice(1), 200);
        x.bell(1);
        due("setPrice(1) with the bell", x.setPrice(1), 0);
        BoxSearch y = Check.with("b5 1 100/100;");
        due("setPrice(0) of several the least", y.setPrice(0), 0);
        due("setPrice(0) of 999", Check.with("b5 1 999/100;").setPrice(0), 900);
    }
}

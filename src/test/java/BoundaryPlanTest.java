/** Promises 14 to 23 and the words on numbers and plans: a test for each sentence that names a boundary. */
public final class BoundaryPlanTest {
    private static final long REFUSED = -4611686018427387904L;
    private static final Check CHECK = new Check("BoundaryPlanTest");
    private static final int[] FAR = {Integer.MIN_VALUE, -1000, -1, 1000, Integer.MAX_VALUE};

    public static void main(String[] args) {
        numbers();
        numbersByOtherChances();
        numbersAsIfShut();
        numberRefusals();
        aboveWhatOneHas();
        ofSeveralTheLeast();
        onlyThatMay();
        ruleStops();
        bestTies();
        bestBlinds();
        bestAnswers();
        meansByTheMass();
        losses();
        breachInOrder();
        breachByStepsThatItCanShow();
        breachBehindPeeped();
        noBreach();
        likelyOpened();
        likelyTaken();
        likelyRefusals();
        edges();
        edgeTies();
        edgeRefusals();
        setPrices();
        setPriceTies();
        setPriceRefusals();
        withoutBoxes();
        CHECK.end();
    }

    private static void says(String words) {
        CHECK.says(words);
    }

    private static void due(String call, long got, long want) {
        CHECK.due(call, got, want);
    }

    private static void number(String text, long top, long foot) {
        BoxSearch x = Check.with(text);
        due("number(0, 0) of '" + text + "'", x.number(0, 0), top);
        due("number(0, 1) of '" + text + "'", x.number(0, 1), foot);
    }

    private static void numbers() {
        says("in least terms (below the line above 0)");
        number("b0 1 999/100;", 999, 1);
        number("b999 1 0/100;", -999, 1);
        number("b7 1 7/100;", 0, 1);
        number("b0 1 0/100;", 0, 1);
        // By the first step alone, as the second makes less of it: (30 * 24 - 100) by 30.
        number("b1 1 24/30 0/70;", 62, 3);
        // Below 0 by all steps: (3 - 100) by 100 is more than (3 - 100) by 3.
        number("b1 1 1/3 0/97;", -97, 100);
        number("b1 1 2/1 1/99;", 1, 100);
        number("b9 1 999/1 0/99;", 99, 1);
        // The second of three: (10 * 90 + 10 * 80 - 500) by 20; alone (900 - 500) by 10; with all 1220 by 100.
        number("b5 1 90/10 80/10 0/80;", 60, 1);
        // The last of four: each makes more of it.
        number("b90 1 40/25 30/25 20/25 10/25;", -65, 1);
    }

    private static void numbersByOtherChances() {
        says("with a sum of CHANCES above 0");
        String box = "b5 1 9/25 8/25 7/25 6/25;";
        long[][] want = {{0, 0, 0, 100, 1, 1}, {0, 50, 50, 0, 5, 2}, {100, 0, 0, 0, 4, 1}, {0, 0, 1, 99, 101, 100}};
        for (long[] w : want) {
            BoxSearch x = Check.with(box + "b1 1 9/100>0 " + w[0] + " " + w[1] + " " + w[2] + " " + w[3] + ";");
            x.open(1, 0);
            due("number(0, 0) by " + w[0] + " " + w[1] + " " + w[2] + " " + w[3], x.number(0, 0), w[4]);
            due("number(0, 1) by " + w[0] + " " + w[1] + " " + w[2] + " " + w[3], x.number(0, 1), w[5]);
        }
        // Of each box that can be told of, while the others go by their own: 400 by 25.
        for (int b = 0; b < 4; b++) {
            BoxSearch x = Check.with("b5 1 36/25 0/75;".repeat(4), "b1 1 9/100>" + b + " 45 55;");
            x.open(4, 0);
            for (int k = 0; k < 4; k++) {
                due("number(" + k + ", 0), " + b + " told of", x.number(k, 0), k == b ? 224 : 16);
                due("number(" + k + ", 1), " + b + " told of", x.number(k, 1), k == b ? 9 : 1);
            }
        }
    }

    private static void numbersAsIfShut() {
        says("as its CHANCES are, as if SHUT");
        BoxSearch x = Check.with("b5 1 90/50 0/50?1;");
        due("shut", x.number(0, 0), 80);
        x.peep(0, true);
        due("good", x.number(0, 0), 80);
        x.open(0, 0);
        due("open", x.number(0, 0), 80);
        x.undo();
        x.undo();
        x.peep(0, false);
        due("not good", x.number(0, 0), 80);
    }

    private static void numberRefusals() {
        says("NUMBER of a BOX: above (part 0), below the line (1).");
        BoxSearch x = Check.with("b5 1 90/50 0/50;");
        due("number(0, 2)", x.number(0, 2), REFUSED);
        due("number(1, 0)", x.number(1, 0), REFUSED);
        for (int far : FAR) {
            due("number(" + far + ", 0)", x.number(far, 0), REFUSED);
            due("number(" + far + ", 1)", x.number(far, 1), REFUSED);
            due("number(0, " + far + ")", x.number(0, far), REFUSED);
        }
    }

    private static void ruleAtTwenty(String box, int want) {
        BoxSearch x = Check.with("b0 1 20/100;" + box);
        x.open(0, 0);
        due("rule() at 20 with '" + box + "'", x.rule(), want);
        due("ruleMean() if it stops", want < 0 ? x.ruleMean() : 2000, 2000);
    }

    private static void aboveWhatOneHas() {
        says("is opened, if that is above what one HAS; else one stops, and takes what one HAS");
        ruleAtTwenty("b10 1 30/100;", -4);
        ruleAtTwenty("b9 1 30/100;", 1);
        ruleAtTwenty("b3 1 30/30 0/70;", -4);
        // 62 by 3; 659 by 33.
        ruleAtTwenty("b1 1 24/30 0/70;", 1);
        ruleAtTwenty("b1 1 23/33 0/67;", -4);
        due("rule() of nought", Check.with("b7 1 7/100;").rule(), -4);
        due("rule() of a hundredth", Check.with("b1 1 2/1 1/99;").rule(), 0);
        due("rule() below nought", Check.with("b8 1 7/100;").rule(), -4);
    }

    private static void ofSeveralTheLeast() {
        says("the one with the greatest NUMBER (of several the least)");
        due("20 and 20", Check.with("b10 1 30/100;b5 1 30/50 0/50;").rule(), 0);
        due("20 and 20, the other way", Check.with("b5 1 30/50 0/50;b10 1 30/100;").rule(), 0);
        due("20 and 20 and 21", Check.with("b10 1 30/100;b5 1 30/50 0/50;b9 1 30/100;").rule(), 2);
        due("20 and 61 thirds", Check.with("b10 1 30/100;b2 1 27/30 0/70;").rule(), 1);
        due("62 thirds and 21", Check.with("b1 1 24/30 0/70;b9 1 30/100;").rule(), 1);
        due("62 thirds and 20", Check.with("b1 1 24/30 0/70;b10 1 30/100;").rule(), 0);
        // 62 by 3 and 124 by 6 are the same.
        due("62 thirds twice", Check.with("b1 1 24/30 0/70;b2 1 54/6 0/94;b1 1 24/30 0/70;").rule(), 0);
    }

    private static void onlyThatMay() {
        says("of BOXES that MAY be opened and are SHUT or PEEPED");
        BoxSearch x = Check.with("b1 2 10/100;b1 1 90/100<0;b1 1 50/100@2;b1 3 70/50 0/50?1;l4;");
        due("rule(): 3 by 68", x.rule(), 3);
        x.peep(3, false);
        due("rule(): peeped at", x.rule(), 3);
        x.bell(2);
        due("rule(): not above the bell", x.rule(), 2);
        x.bell(4);
        x.open(0, 0);
        due("rule(): the rival gone, 1 in reach", x.rule(), 1);
        x.open(1, 0);
        due("rule(): none is left", x.rule(), -4);
    }

    private static void ruleStops() {
        says("What THE RULE does: the BOX; -4: it stops.");
        BoxSearch x = Check.with("b1 1 10/100;b1 1 20/100;b1 1 30/100;b1 1 40/100;b1 1 50/100;");
        due("rule(): the last box", x.rule(), 4);
        x.open(4, 0);
        due("rule() with 50", x.rule(), -4);
        due("ruleMean() with 50", x.ruleMean(), 50L * 100000000);
        for (int b = 0; b < 4; b++) {
            x.open(b, 0);
        }
        due("rule() with all open", x.rule(), -4);
        due("ruleMean() with all open", x.ruleMean(), 50);
        due("loss() with all open", x.loss(), 0);
    }

    private static void bestTies() {
        says("stopping ahead of opening, that ahead of peeping, the least BOX ahead of others");
        due("9 for 9", Check.with("b9 1 9/100;").best(), 0);
        due("9 for 8", Check.with("b8 1 9/100;").best(), 10);
        BoxSearch x = Check.with("b0 1 50/100;b4 1 60/50 0/50?2;");
        x.open(0, 0);
        // For 4 both are 51; for 5 opening is 50, peeping 50.5; for 6 peeping is 50 too.
        due("opening ahead of peeping", x.best(), 11);
        x.price(1, 5);
        due("peeping, if better", x.best(), 21);
        due("its mean", x.bestMean(), 5050);
        x.price(1, 6);
        due("stopping ahead of peeping", x.best(), 0);
        due("the least to open", Check.with("b1 1 9/100;b2 1 9/100;b1 1 9/100;").best(), 10);
        due("not the least, if better", Check.with("b2 1 9/100;b1 1 9/100;b1 1 9/100;").best(), 11);
        due("the least to peep at", Check.with("b9 1 9/100;b5 1 9/50 1/50?0;b5 1 9/50 1/50?0;").best(), 21);
        due("not the least to peep at", Check.with("b5 1 9/50 1/50?1;b5 1 9/50 1/50?0;").best(), 21);
    }

    private static void bestBlinds() {
        says("what one HAS ahead of a BLIND");
        // Opened it would be 100 or 50 for 30: 45; shut it is 50, or 50.5.
        BoxSearch x = Check.with("b0 1 50/100;b30 1 100/50 0/50!;");
        x.open(0, 0);
        due("50 and 50", x.best(), 0);
        BoxSearch y = Check.with("b0 1 50/100;b30 1 101/50 0/50!;");
        y.open(0, 0);
        due("50 and 50.5", y.best(), 31);
        due("its mean", y.bestMean(), 5050);
        due("0 and 0", Check.with("b0 1 0/100!;").best(), 0);
        due("the least of blinds", Check.with("b9 1 5/100!;b9 1 5/100!;").best(), 30);
        due("the greater of blinds", Check.with("b9 1 5/100!;b9 1 6/100!;").best(), 31);
        due("a blind is stopping: ahead of opening", Check.with("b0 1 5/100!;").best(), 30);
        due("a blind that may not be opened", Check.with("b0 1 5/100!;l0;").best(), 30);
        BoxSearch z = Check.with("b0 1 5/50 1/50!;");
        z.open(0, 1);
        due("an open blind", z.best(), 0);
        due("its mean", z.bestMean(), 1);
    }

    private static void bestAnswers() {
        says("0 stops, 10 and a BOX: opens it, 20 and it: peeps at it, 30 and it: takes a BLIND");
        String dear = "b9 1 9/100;b9 1 9/100;b9 1 9/100;b9 1 9/100;";
        due("nothing is worth it", Check.with(dear, "b9 1 9/100;").best(), 0);
        due("box 4 is opened", Check.with(dear, "b8 1 9/100;").best(), 14);
        due("box 4 is peeped at", Check.with(dear, "b5 1 9/50 1/50?0;").best(), 24);
        due("box 4 is taken", Check.with(dear, "b9 1 9/100!;").best(), 34);
    }

    private static void meansByTheMass() {
        says("MEANS are told times THE MASS (whole numbers)");
        BoxSearch x = Check.with("b0 1 999/100;b0 1 999/100;b0 1 999/100;b0 1 999/100;b0 1 999/100;");
        due("bestMean(): the most that there can be", x.bestMean(), 9990000000000L);
        due("ruleMean(): the most that there can be", x.ruleMean(), 9990000000000L);
        // Five openings in a row: 0.9 to the k by 0.1 times (50 less k), less 1.
        BoxSearch w = Check.with("b1 0 50/10 0/90;b1 0 49/10 0/90;b1 0 48/10 0/90;b1 0 47/10 0/90;b1 0 46/10 0/90;");
        due("ruleMean() of five in a row", w.ruleMean(), 156472600000L);
        due("bestMean() of five in a row", w.bestMean(), 156472600000L);
        BoxSearch v = Check.with("b1 1 200/1 50/99;");
        due("ruleMean() with a chance of 1", v.ruleMean(), 200 + 50 * 99 - 100);
        due("bestMean() with a chance of 1", v.bestMean(), 200 + 50 * 99 - 100);
        due("likely(4, 0): by 0.9 four times", w.likely(4, 0), 6561000000L);
        // Odd chances: 0.37 * 91 + 0.63 * 13 - 7, by 100.
        BoxSearch y = Check.with("b7 1 91/37 13/63;");
        due("bestMean()", y.bestMean(), 37 * 91 + 63 * 13 - 700);
        // Of a plan that pays more than it takes: the rule opens one that is not good.
        BoxSearch z = Check.with("b10 1 30/50 0/50?1;");
        z.peep(0, false);
        due("ruleMean() below 0", z.ruleMean(), -500);
        due("loss() then", z.loss(), 500);
        due("breach() then", z.breach(), 2);
    }

    private static void losses() {
        says("MEAN of THE BEST less that of THE RULE");
        BoxSearch x = Check.with("b9 1 9/100;");
        due("both stop", x.loss(), 0);
        BoxSearch y = Check.with("b5 1 50/100!;");
        due("the rule opens a blind for 5", y.loss(), 500);
        y.open(0, 0);
        due("nothing is left", y.loss(), 0);
    }

    /**
     * The rule opens 1, which tells of 0. With 50 it opens 0 (its number is 80 then): with 0 behind it the blind's 52
     * are better than 50: place 4 + 3 * 5. With 40 the blind is better at once: place 4 * 5, one act away.
     */
    private static void breachInOrder() {
        says("after each opening by the STEPS that it can show, in order, one wholly ahead of the next");
        BoxSearch x = Check.with("b10 1 100/1 0/99;b1 1 50/50 40/50>0 50 50;b30 1 52/100!;");
        due("rule()", x.rule(), 1);
        due("best()", x.best(), 11);
        due("breach()", x.breach(), 4 + 3 * 5);
        x.open(1, 1);
        due("breach() behind the second step", x.breach(), 4 * 5);
        x.undo();
        x.open(1, 0);
        due("breach() behind the first step", x.breach(), 4 + 3 * 5);
        x.open(0, 0);
        due("breach() with 100", x.breach(), -4);
        x.undo();
        x.open(0, 1);
        due("breach() at hand", x.breach(), 4 + 3 * 5);
    }

    private static void breachByStepsThatItCanShow() {
        says("the STEPS that it can show");
        BoxSearch x = Check.with("b10 1 100/1 0/99;b1 1 50/50 40/50>0 100 0;b30 1 52/100!;");
        due("the second step of 0 has no chance", x.breach(), 4 * 5);
        x.open(1, 0);
        due("none behind the first step", x.breach(), -4);
        // With a good one only the first step can be shown: 90, and no blind of 60 is better then.
        BoxSearch y = Check.with("b10 1 100/90 0/10?50;b30 1 60/100!;");
        due("shut: behind its second step", y.breach(), 4);
        y.peep(0, true);
        due("good", y.breach(), -4);
        // A chance of 1 is one.
        due("chance 1", Check.with("b10 1 100/99 0/1?50;b30 1 60/100!;").breach(), 4);
    }

    /** After a peep the CODE's digit goes from 1 or 2 to 3 or 4. */
    private static void breachBehindPeeped() {
        says("at which what THE RULE does (and THE BEST from there on) is not as good as THE BEST: its CODE");
        // For nothing the rule's opening does no harm; behind it the blind is better than 100.
        BoxSearch x = Check.with("b0 1 100/50 0/50?1;b90 1 120/100!;");
        x.peep(0, true);
        due("behind a good one", x.breach(), 3);
        x.undo();
        x.peep(0, false);
        due("behind one that is not", x.breach(), 4);
        // A box of each number, and a blind that is better behind its second step.
        int power = 1;
        for (int b = 0; b < 5; b++) {
            StringBuilder text = new StringBuilder();
            for (int k = 0; k < 5; k++) {
                text.append(k == b ? "b1 1 100/50 0/50;" : k == (b + 1) % 5 ? "b60 1 50/100!;" : "b9 1 1/100;");
            }
            due("behind box " + b, Check.with(text.toString()).breach(), 4 * power);
            power *= 5;
        }
    }

    private static void noBreach() {
        says("its CODE; -4: none");
        BoxSearch x = Check.with("b9 1 90/50 10/50;b1 1 60/100;");
        due("hours for both", x.breach(), -4);
        x.bell(1);
        // The rule goes by 72, the number of 0, but 1 is 59 in the mean and 0 only 41.
        due("an hour for one: CODE 0", x.breach(), 0);
        BoxSearch y = Check.with("b1 1 5/100!;");
        due("taking it shut is better: CODE 0", y.breach(), 0);
    }

    private static void likelyOpened() {
        says("such that a BOX is opened (from there on)");
        BoxSearch x = Check.with("b9 1 9/100;b2 1 90/30 0/70;b1 1 5/100<1;");
        due("never", x.likely(0, 0), 0);
        due("surely: all of the mass", x.likely(1, 0), 1000000);
        due("if 1 shows nothing", x.likely(2, 0), 700000);
        x.open(1, 1);
        due("opened ahead of that", x.likely(1, 0), 0);
        due("surely: all of the mass there", x.likely(2, 0), 10000);
        BoxSearch y = Check.with("b5 1 9/1 0/99?0;");
        due("only when good, by chance 1 of 100", y.likely(0, 0), 1);
        // Peeping first: 60 when good, else 29, less 1; opening 1 and peeping then is 34, not 34.2.
        BoxSearch z = Check.with("b30 1 90/20 0/80?1;b1 1 30/100;");
        due("best()", z.best(), 20);
        due("when not good another", z.likely(1, 0), 8000);
        due("when good this one", z.likely(0, 0), 2000);
        // Whatever the kin shows, 0 is opened behind it.
        BoxSearch k = Check.with("b0 0 90/50 80/50;b0 0 9/50 8/50>0 60 40;");
        due("best() of a kin", k.best(), 11);
        due("by two ways: all of the mass", k.likely(0, 0), 10000);
    }

    private static void likelyTaken() {
        says("of OPEN ones that showed what one HAS the least; or a SHUT BLIND");
        BoxSearch x = Check.with("b0 1 9/50 4/50;b0 1 9/50 4/50;b0 1 4/100;");
        x.open(2, 0);
        x.open(1, 1);
        x.bell(2);
        due("of 1 and 2 the least", x.likely(1, 1), 100);
        due("not 2", x.likely(2, 1), 0);
        due("not 0, which is shut", x.likely(0, 1), 0);
        x.bell(99);
        due("0, by 9 or by 4", x.likely(0, 1), 100);
        BoxSearch y = Check.with("b1 1 0/100;b0 1 0/100;");
        due("nothing open, nothing taken", y.likely(0, 1) + y.likely(1, 1), 0);
        y.open(1, 0);
        due("one that showed 0", y.likely(1, 1), 100);
        y.open(0, 0);
        due("of two that showed 0 the least", y.likely(0, 1), 1);
        due("not the other", y.likely(1, 1), 0);
        BoxSearch w = Check.with("b0 1 9/50 0/50;b1 1 5/100;");
        w.open(1, 0);
        due("the one that showed 5, if the other shows less", w.likely(1, 1), 50);
        due("the other, if it shows more", w.likely(0, 1), 50);
        BoxSearch z = Check.with("b9 1 9/100;b9 1 9/100!;");
        due("a shut blind", z.likely(1, 1), 10000);
        due("is not opened", z.likely(1, 0), 0);
        due("the first box, shut", Check.with("b9 1 9/100!;").likely(0, 1), 100);
        // For nothing 0 is opened first; where it shows 4 or 0 the blind of 5 is taken.
        BoxSearch v = Check.with("b0 1 9/50 4/30 0/20;b9 1 5/100!;");
        due("a shut blind by two ways", v.likely(1, 1), 5000);
        due("the other by one", v.likely(0, 1), 5000);
    }

    private static void likelyRefusals() {
        says("LIKELY of a BOX: opened (what 0), taken (1). -1.");
        BoxSearch x = Check.with("b1 1 9/100;");
        due("likely(0, 2)", x.likely(0, 2), -1);
        due("likely(1, 0)", x.likely(1, 0), -1);
        for (int far : FAR) {
            due("likely(" + far + ", 0)", x.likely(far, 0), -1);
            due("likely(" + far + ", 1)", x.likely(far, 1), -1);
            due("likely(0, " + far + ")", x.likely(0, far), -1);
        }
    }

    private static void edges() {
        says("the least PRICE 0 .. 999 (all else as now) with which THE BEST at the PLACE doesn't begin by opening it");
        due("worth 999", Check.with("b5 1 999/100;").edge(0), 999);
        due("worth 1", Check.with("b5 1 1/100;").edge(0), 1);
        due("worth 0", Check.with("b5 1 0/100;").edge(0), 0);
        due("a mean of 1.5", Check.with("b5 1 2/50 1/50;").edge(0), 2);
        due("a mean of 1.01", Check.with("b5 1 2/1 1/99;").edge(0), 2);
        due("a mean of 0.99", Check.with("b5 1 1/99 0/1;").edge(0), 1);
        BoxSearch y = Check.with("b5 1 9/1 8/99?0;b5 1 1/1 0/99?0;");
        y.open(0, 1);
        y.peep(1, true);
        due("1 where one has 8", y.edge(1), 0);
        y.undo();
        y.undo();
        y.peep(0, true);
        y.open(1, 1);
        due("9 by a mass of 1", y.edge(0), 9);
        y.undo();
        y.peep(1, true);
        y.open(0, 0);
        due("1 where one has 9", y.edge(1), 0);
        BoxSearch z = Check.with("b5 1 1/1 0/99?0;");
        z.peep(0, true);
        due("1 by a mass of 1", z.edge(0), 1);
        due("above the bell", Check.with("b5 1 999/100;l0;").edge(0), 0);
        // By the greatest mass; the others are worth nothing, and for nothing they stand behind the least.
        BoxSearch w = Check.with("b5 1 999/100;", "b9 1 9/100;".repeat(4));
        due("worth 999 of five", w.edge(0), 999);
        due("another of five", w.edge(4), 0);
        BoxSearch v = Check.with("b5 1 80/100;".repeat(5));
        due("the least of five alike", v.edge(0), 6);
        due("the last of five alike", v.edge(4), 5);
        BoxSearch x = Check.with("b0 1 998/50 997/50;b5 1 999/100;");
        x.open(0, 0);
        due("1 above what one has", x.edge(1), 1);
        x.undo();
        x.open(0, 1);
        due("2 above what one has", x.edge(1), 2);
        due("the price stays", x.box(1, 1), 5);
        due("beside a blind of 500", Check.with("b999 9 500/100!;b5 1 999/100;").edge(1), 499);
        // Behind 0 stands 999 for 1: opening 0 opens the way.
        due("what stands behind it counts", Check.with("b5 1 0/100;b1 1 999/100<0;").edge(0), 998);
    }

    private static void edgeTies() {
        says("EDGE of a BOX");
        BoxSearch x = Check.with("b10 1 100/100;b10 1 100/100;");
        due("the least is ahead when both are as good", x.edge(0), 11);
        due("the other is not", x.edge(1), 10);
        BoxSearch y = Check.with("b0 1 50/100;b1 1 60/50 0/50?2;");
        y.open(0, 0);
        due("opening is ahead of peeping", y.edge(1), 5);
        y.peep(1, true);
        due("good: 60 above 50", y.edge(1), 10);
        y.undo();
        y.peep(1, false);
        due("not good", y.edge(1), 0);
    }

    private static void edgeRefusals() {
        says("EDGE; -4. -1; -3: it isn't SHUT or PEEPED.");
        BoxSearch x = Check.with("b1 1 90/100;b1 1 80/50 0/50?1;");
        for (int far : FAR) {
            due("edge(" + far + ")", x.edge(far), -1);
        }
        due("edge(2)", x.edge(2), -1);
        x.peep(1, true);
        due("edge(1) of a peeped one is no refusal", x.edge(1) >= 0 ? 1 : 0, 1);
        x.open(0, 0);
        due("edge(0)", x.edge(0), -3);
        x.open(1, 0);
        due("edge(1)", x.edge(1), -3);
    }

    private static void setPrices() {
        says("of PRICES 0, 100, .. 900 the one with the greatest product of PRICE and what is LIKELY to be opened "
            + "from the first PLACE");
        due("worth 999", Check.with("b5 1 999/100;").setPrice(0), 900);
        due("worth 901", Check.with("b5 1 901/100;").setPrice(0), 900);
        due("worth 900", Check.with("b5 1 900/100;").setPrice(0), 800);
        due("worth 101", Check.with("b5 1 101/100;").setPrice(0), 100);
        due("worth 100", Check.with("b5 1 100/100;").setPrice(0), 0);
        due("worth 0", Check.with("b5 1 0/100;").setPrice(0), 0);
        BoxSearch x = Check.with("b5 1 950/100;b1 1 2/100<0;");
        x.open(0, 0);
        due("from the first place", x.setPrice(0), 900);
        due("the price stays", x.box(0, 1), 5);
        due("the place stays", x.at(0), 3);
        x.bell(0);
        due("above the bell", x.setPrice(0), 0);
    }

    /** For 400 it is surely opened; for 800 only where the other shows nothing. */
    private static void setPriceTies() {
        says("of several the least");
        due("half of 800 is as much as 400", Check.with("b5 1 900/100;b0 1 450/50 0/50;").setPrice(0), 400);
        due("0.51 of 800 is more", Check.with("b5 1 900/100;b0 1 450/49 0/51;").setPrice(0), 800);
        due("0.49 of 800 is less", Check.with("b5 1 900/100;b0 1 450/51 0/49;").setPrice(0), 400);
    }

    private static void setPriceRefusals() {
        says("SET PRICE. -1.");
        BoxSearch x = Check.with("b1 1 90/100;");
        due("setPrice(1)", x.setPrice(1), -1);
        for (int far : FAR) {
            due("setPrice(" + far + ")", x.setPrice(far), -1);
        }
    }

    private static void withoutBoxes() {
        says("No BOXES");
        BoxSearch x = new BoxSearch();
        due("number(0, 0)", x.number(0, 0), REFUSED);
        due("rule()", x.rule(), -4);
        due("ruleMean()", x.ruleMean(), 0);
        due("best()", x.best(), 0);
        due("bestMean()", x.bestMean(), 0);
        due("loss()", x.loss(), 0);
        due("breach()", x.breach(), -4);
        due("likely(0, 0)", x.likely(0, 0), -1);
        due("edge(0)", x.edge(0), -1);
        due("setPrice(0)", x.setPrice(0), -1);
    }
}

/** Promises 1 to 6 and the words on texts: a test for each sentence that names a boundary. */
public final class BoundaryTextTest {
    private static final Check CHECK = new Check("BoundaryTextTest");
    private static final int[] FAR = {Integer.MIN_VALUE, -1000, -1, 1000, Integer.MAX_VALUE};
    /** All kinds of STATEMENTS, once. */
    private static final String FULL =
        "b12 3 90/50 3/50;l15;b1 1 9/40 0/60?25;b7 0 30/100!;b5 9 4/30 2/70<0;b999 1 999/100>0 40 60;";
    /** Where each NUMBER of a text stands. */
    private static final String[][] NUMBERS = {
        {"b", " 1 9/100;"}, {"b1 ", " 9/100;"}, {"b1 1 ", "/100;"}, {"b1 1 9/", ";"}, {"b1 1 9/50 ", "/50;"},
        {"b1 1 9/50 1/", ";"}, {"b1 1 9/100?", ";"}, {"b1 1 9/100<", ";"}, {"b1 1 9/100>", " 100;"},
        {"b1 1 9/100>0 ", ";"}, {"b1 1 9/100>0 50 ", ";"}, {"b1 1 9/100@", ";"}, {"l", ";"}};

    public static void main(String[] args) {
        newObject();
        fiveBoxes();
        prices();
        hours();
        howManySteps();
        worths();
        chances();
        peepPrices();
        behind();
        kin();
        otherChances();
        latest();
        bells();
        digits();
        noZeroAhead();
        atLeastOneStatement();
        endsTooEarly();
        firstWrongByte();
        bytesAreSigned();
        stepsDoNotMatterForForm();
        formAheadOfSense();
        firstStatementThatIsNotAsTold();
        eachFaultOfSense();
        noRoom();
        placeOfTheFault();
        allOrNothing();
        placeAfterText();
        textRefusals();
        boxRefusals();
        boxFours();
        stepRefusals();
        stepFours();
        priceCalls();
        bellCalls();
        CHECK.end();
    }

    private static void says(String words) {
        CHECK.says(words);
    }

    private static void due(String call, long got, long want) {
        CHECK.due(call, got, want);
    }

    /** Of a new object; with a fault nothing may have come. */
    private static void read(String text, int want) {
        BoxSearch x = new BoxSearch();
        due("'" + text + "'", Check.tell(x, text), want);
        if (want < 0) {
            due("no box of '" + text + "'", x.count(0), 0);
            due("no step of '" + text + "'", x.count(2), 0);
            due("no bell of '" + text + "'", x.count(1), 99);
        }
    }

    private static String many(String part, int n) {
        return part.repeat(n);
    }

    private static void newObject() {
        says("No BOXES, BELL 99.");
        BoxSearch x = new BoxSearch();
        due("count(0)", x.count(0), 0);
        due("count(1)", x.count(1), 99);
        due("count(2)", x.count(2), 0);
        for (int what = 0; what < 6; what++) {
            due("box(0, " + what + ")", x.box(0, what), -1);
        }
        due("step(0, 0, 0)", x.step(0, 0, 0), -1);
        due("is(0)", x.is(0), -1);
        due("may(0)", x.may(0), -1);
        due("open(0, 0)", x.open(0, 0), -1);
        due("peep(0, true)", x.peep(0, true), -1);
        due("price(0, 0)", x.price(0, 0), -1);
        due("bell(99)", x.bell(99), 99);
    }

    private static void fiveBoxes() {
        says("4 as they come");
        BoxSearch x = Check.with("b1 1 9/100;b2 1 9/100;", "b3 1 9/100;", "b4 1 9/100;b5 1 9/100;");
        for (int b = 0; b < 5; b++) {
            due("box(" + b + ", 1)", x.box(b, 1), b + 1);
        }
        due("box(5, 1)", x.box(5, 1), -1);
        due("a sixth", Check.tell(x, "b6 1 9/100;"), -2000);
        due("count(0)", x.count(0), 5);
        due("box(4, 1)", x.box(4, 1), 5);
    }

    private static void prices() {
        says("a PRICE (0 .. 999)");
        due("b0", Check.with("b0 1 9/100;").box(0, 1), 0);
        due("b999", Check.with("b999 1 9/100;").box(0, 1), 999);
        read("b1000 1 9/100;", -1004);
    }

    private static void hours() {
        says("HOURS (0 .. 9)");
        due("0 hours", Check.with("b1 0 9/100;").box(0, 2), 0);
        due("9 hours", Check.with("b1 9 9/100;").box(0, 2), 9);
        read("b1 10 9/100;", -2000);
        read("b1 999 9/100;", -2000);
    }

    private static void howManySteps() {
        says("1 .. 4 STEPS");
        due("one", Check.with("b1 1 9/100;").box(0, 3), 1);
        due("four", Check.with("b1 1 9/25 8/25 7/25 6/25;").box(0, 3), 4);
        read("b1 1;", -2000);
        read("b1 1 9/20 8/20 7/20 6/20 5/20;", -2000);
        // Four that make 100 and a fifth; and as many as a row holds.
        read("b1 1 9/25 8/25 7/25 6/25 5/0;", -2000);
        read("b1 1 9/25 8/25 7/25 6/25 5/25;", -2000);
        read("b1 1" + many(" 1/1", 28) + ";", -2000);
    }

    private static void worths() {
        says("a WORTH (0 .. 999; each less than the one ahead)");
        BoxSearch x = Check.with("b1 1 999/25 998/25 1/25 0/25;");
        int[] want = {999, 998, 1, 0};
        for (int i = 0; i < 4; i++) {
            due("step(0, " + i + ", 0)", x.step(0, i, 0), want[i]);
        }
        read("b1 1 1000/100;", -1008);
        read("b1 1 9/50 9/50;", -2000);
        read("b1 1 9/50 10/50;", -2000);
        read("b1 1 0/50 0/50;", -2000);
        read("b1 1 9/50 5/25 5/25;", -2000);
        read("b1 1 9/25 5/25 4/25 4/25;", -2000);
        read("b1 1 9/25 5/25 4/25 8/25;", -2000);
    }

    private static void chances() {
        says("a CHANCE (1 .. 100 hundredths; together 100)");
        due("100", Check.with("b1 1 9/100;").step(0, 0, 1), 100);
        BoxSearch x = Check.with("b1 1 9/1 8/99;b1 1 9/1 8/1 7/1 6/97;");
        due("1", x.step(0, 0, 1), 1);
        due("99", x.step(0, 1, 1), 99);
        due("97", x.step(1, 3, 1), 97);
        read("b1 1 9/0;", -2000);
        read("b1 1 9/0 8/100;", -2000);
        read("b1 1 9/100 8/0;", -2000);
        read("b1 1 9/50 8/0 7/50;", -2000);
        read("b1 1 9/99;", -2000);
        read("b1 1 9/101;", -2000);
        read("b1 1 9/999;", -2000);
        read("b1 1 9/50 8/49;", -2000);
        read("b1 1 9/50 8/51;", -2000);
        read("b1 1 9/100 8/100;", -2000);
    }

    private static void peepPrices() {
        says("A PEEP has a PEEP PRICE (0 .. 999)");
        due("?0", Check.with("b1 1 9/100?0;").box(0, 4), 0);
        due("?999", Check.with("b1 1 9/100?999;").box(0, 4), 999);
        read("b1 1 9/100?1000;", -1014);
    }

    private static void behind() {
        says("a BEHIND the BOX behind which it opens");
        String four = many("b1 1 9/100;", 4);
        BoxSearch x = Check.with(four, "b1 1 9/100<3;");
        due("behind the last one ahead", x.box(4, 4), 3);
        BoxSearch y = Check.with(four);
        due("behind itself", Check.tell(y, "b1 1 9/100<4;"), -2000);
        due("behind none", Check.tell(y, "b1 1 9/100<5;"), -2000);
        due("behind none, far", Check.tell(y, "b1 1 9/100<999;"), -2000);
        due("behind the first", Check.tell(y, "b1 1 9/100<0;"), 1);
        read("b1 1 9/100<0;", -2000);
        // One that comes later in the same text isn't there ahead of it.
        read("b1 1 9/100<1;b1 1 9/100;", -2000);
    }

    private static void kin() {
        says("a KIN the BOX of which it tells (no PEEP; it opens behind none)");
        read("b1 1 9/100?0;b1 1 9/100>0 100;", -2013);
        BoxSearch x = Check.with("b1 1 9/50 8/50;b1 1 9/100>0 50 50;");
        due("a kin may be opened ahead of the box that it tells of", x.may(1), 1);
        due("and is", x.open(1, 0), 9);
        String[] others = {"", "!", "@5", "<0", ">0 100"};
        for (String kind : others) {
            BoxSearch y = Check.with("b1 1 9/100;b1 1 9/100" + kind + ";");
            due("a kin of a box with '" + kind + "'", Check.tell(y, "b1 1 9/100>1 100;"), 1);
            due("tells of it", y.box(1, 5), 2);
        }
        read("b1 1 9/100>0 100;", -2000);
    }

    private static void otherChances() {
        says("for each STEP of that an OTHER CHANCE (0 .. 100; together 100)");
        String two = "b1 1 9/50 8/50;";
        BoxSearch x = Check.with(two + "b1 1 9/100>0 0 100;");
        due("0", x.step(0, 0, 2), 0);
        due("100", x.step(0, 1, 2), 100);
        read(two + "b1 1 9/100>0 100 0;", 2);
        read(two + "b1 1 9/100>0 1 99;", 2);
        read(two + "b1 1 9/100>0 0 99;", -2015);
        read(two + "b1 1 9/100>0 0 101;", -2015);
        read(two + "b1 1 9/100>0 100 1;", -2015);
        read(two + "b1 1 9/100>0 0 0;", -2015);
        read("b1 1 9/100;b1 1 9/100>0 100;", 2);
        read("b1 1 9/100;b1 1 9/100>0 101;", -2011);
        read("b1 1 9/25 8/25 7/25 6/25;b1 1 9/100>0 0 0 0 100;", 2);
    }

    private static void latest() {
        says("a RIVAL a LATEST (1 .. 99)");
        due("@1", Check.with("b1 1 9/100@1;").box(0, 4), 1);
        due("@99", Check.with("b1 1 9/100@99;").box(0, 4), 99);
        read("b1 1 9/100@0;", -2000);
        read("b1 1 9/100@100;", -2000);
        read("b1 1 9/100@999;", -2000);
    }

    private static void bells() {
        says("BELL (0 .. 99; 99 at first)");
        due("at first", new BoxSearch().count(1), 99);
        due("l0", Check.with("l0;").count(1), 0);
        due("l99", Check.with("l0;l99;").count(1), 99);
        read("l100;", -2000);
        read("l999;", -2000);
    }

    private static void digits() {
        says("NUMBERS have 1 to 3 digits");
        for (String[] n : NUMBERS) {
            int at = n[0].length();
            read(n[0] + n[1], -1000 - at);
            read(n[0] + "1000" + n[1], -1003 - at);
            read(n[0] + "9999" + n[1], -1003 - at);
            // Up to three digits are no fault of form, whatever they mean.
            for (String number : new String[] {"0", "9", "10", "99", "100", "999"}) {
                int answer = Check.tell(new BoxSearch(), n[0] + number + n[1]);
                due(n[0] + number + n[1] + " has no fault of form", answer > 0 || answer <= -2000 ? 1 : 0, 1);
            }
        }
    }

    private static void noZeroAhead() {
        says("no 0 ahead of another");
        for (String[] n : NUMBERS) {
            int at = n[0].length();
            read(n[0] + "00" + n[1], -1001 - at);
            read(n[0] + "01" + n[1], -1001 - at);
            read(n[0] + "010" + n[1], -1001 - at);
        }
    }

    private static void atLeastOneStatement() {
        says("At least one STATEMENT");
        read("", -1000);
        read(";", -1000);
        read("l0;", 1);
        read(many("l0;", 40), 40);
    }

    private static void endsTooEarly() {
        says("the size, if it ends too early");
        int whole = 0;
        for (int n = 0; n < FULL.length(); n++) {
            String text = FULL.substring(0, n);
            boolean atEnd = text.endsWith(";");
            whole += atEnd ? 1 : 0;
            read(text, atEnd ? whole : -1000 - n);
        }
        read(FULL, whole + 1);
        read("b1 1 9/100@", -1011);
        read("b1 1 9/100@5", -1012);
    }

    private static void firstWrongByte() {
        says("the place of the first byte with which no TEXT can go on");
        for (int n = 0; n < FULL.length(); n++) {
            for (char sign : new char[] {0, 'x', '-', '\n', 'L', 127, 128, 255}) {
                read(FULL.substring(0, n) + sign + FULL.substring(n + 1), -1000 - n);
            }
        }
        // Right signs where they can't be.
        read("b1 1 9/100 ;", -1011);
        read("b1 1 9/100!?;", -1011);
        read("b1 1 9/100!1;", -1011);
        read("b1 1 9/100?1 1;", -1012);
        read("b1 1 9/100<1 1;", -1012);
        read("b1 1 9/100@1 1;", -1012);
        read("b1 1 9/100>1 1/1;", -1014);
        read("b1 1 9/100>1 1?1;", -1014);
        read("b1 1 ?1;", -1005);
        read("l1 1;", -1002);
        read("l1!;", -1002);
        read("l1;;", -1003);
        // The second one is not looked at.
        read("x1 x", -1000);
        read("b1 1 9x9x;", -1006);
    }

    private static void bytesAreSigned() {
        says("what is put in keeps its lowest bits");
        BoxSearch x = new BoxSearch();
        x.row(0, 0, 3);
        x.put(0, 0, 'l' - 256);
        x.put(0, 1, '7' + 512);
        x.put(0, 2, ';' + 65536);
        due("a text by its lowest bits", x.text(0), 1);
        due("its bell", x.count(1), 7);
        x.put(0, 1, '8' + 128);
        due("a byte with the highest bit is no digit", x.text(0), -1001);
        due("the bell stays", x.count(1), 7);
    }

    private static void stepsDoNotMatterForForm() {
        says("how many STEPS there are doesn't matter for that");
        for (String end : new String[] {";", "!;", "?1;", "<0;", ">0;", ">0 100;", "@1;"}) {
            read("b1 1" + end, -2000);
            read("b1 1" + many(" 1/1", 6) + end, -2000);
        }
        read("b1 1", -1004);
        read("b1 1x", -1004);
        read("b1 1" + many(" 1/1", 6), -1028);
        read("b1 1" + many(" 1/1", 6) + "x", -1028);
        // Nor how many OTHER CHANCES.
        read("b1 1 9/100;b1 1 9/100>0" + many(" 1", 30) + ";", -2011);
        read("b1 1 9/100;b1 1 9/100>0" + many(" 1", 30), -1083);
    }

    private static void formAheadOfSense() {
        says("else kind 2");
        read("l100;l100;x", -1010);
        read("b1 99 9/99;b1 1 9/100", -1021);
        read("b1 1;l", -1006);
        read("b1 1;l1;", -2000);
    }

    private static void firstStatementThatIsNotAsTold() {
        says("the place of the letter of the first STATEMENT that isn't as told");
        read("l100;b1 1;", -2000);
        read("l99;b1 1;l100;", -2004);
        read("l99;l0;l100;b1 1;", -2007);
        read("b1 1 9/100;l0;b1 1 9/99;", -2014);
    }

    private static void eachFaultOfSense() {
        says("a BOX that isn't there ahead of it, a KIN of a PEEP, or of one of which another one tells, "
            + "or with more or fewer OTHER CHANCES");
        String one = "b1 1 9/100;";
        String two = "b1 1 9/50 8/50;";
        read(one + "b1 1 9/100<1;", -2011);
        read(one + "b1 1 9/100>1 100;", -2011);
        read("b1 1 9/100?5;b1 1 9/100>0 100;", -2013);
        read(one + "b1 1 9/100>0 100;b1 1 9/100>0 100;", -2028);
        // A kin that is told of may itself tell.
        read(one + "b1 1 9/100>0 100;b1 1 9/100>1 100;", 3);
        read(two + "b1 1 9/100>0;", -2015);
        read(two + "b1 1 9/100>0 100;", -2015);
        read(two + "b1 1 9/100>0 50 50;", 2);
        read(two + "b1 1 9/100>0 50 50 0;", -2015);
        read(two + "b1 1 9/100>0 100 0 0 0 0;", -2015);
        BoxSearch x = Check.with(one + "b1 1 9/100>0 100;");
        due("of which one of an earlier text tells", Check.tell(x, "b1 1 9/100>0 100;"), -2000);
    }

    private static void noRoom() {
        says("no room");
        String one = "b1 1 9/100;";
        read(many(one, 5), 5);
        read(many(one, 6), -2055);
        read(many(one, 5) + "l5;", 6);
        read(many(one, 5) + "l5;" + one, -2058);
        BoxSearch x = Check.with(many(one, 4));
        due("two more", Check.tell(x, one + one), -2011);
        due("none of them came", x.count(0), 4);
        due("one more", Check.tell(x, one), 1);
        due("none more", Check.tell(x, one), -2000);
        due("but a bell", Check.tell(x, "l3;"), 1);
    }

    private static void placeOfTheFault() {
        says("-1000 times the kind less the place");
        // Rows are at most 120 long: their whole size, their last byte, their last statement.
        read(many("l0;", 39) + "l10", -1120);
        read(many("l0;", 39) + "l1x", -1119);
        read(many("l0;", 38) + "l0;l00", -1119);
        read(many("l0;", 38) + "l0;l0x", -1119);
        read(many("l0;", 38) + "l100;x", -1119);
        read(many("l0;", 38) + "l100;", -2114);
        read(many("l0;", 40), 40);
    }

    private static void allOrNothing() {
        says("Without FAULT all of it comes; with one nothing.");
        BoxSearch x = Check.with(FULL);
        due("count(0)", x.count(0), 5);
        due("count(1)", x.count(1), 15);
        due("count(2)", x.count(2), 8);
        BoxSearch y = Check.with("l7;b2 2 9/50 3/50;");
        due("a fault of sense at the end", Check.tell(y, "l3;b1 1 9/100>0 50 50;l100;"), -2022);
        due("a fault of form at the end", Check.tell(y, "l3;b1 1 9/100>0 50 50;l10"), -1025);
        due("count(0)", y.count(0), 1);
        due("count(1)", y.count(1), 7);
        due("box(0, 5)", y.box(0, 5), -4);
        due("step(0, 0, 2)", y.step(0, 0, 2), -4);
        due("bestMean()", y.bestMean(), 400);
    }

    private static void placeAfterText() {
        says("The PLACE is then the first one again, if a BOX came.");
        BoxSearch x = Check.with("b2 2 9/50 3/50;b1 1 9/50 0/50?1;");
        x.open(0, 0);
        x.peep(1, true);
        due("a bell", Check.tell(x, "l9;"), 1);
        due("the place stays", x.at(0), 3 + 5);
        due("the acts stay", x.at(3), 2);
        due("a fault", Check.tell(x, "b1 1 9/100;l100;"), -2011);
        due("the place stays", x.at(0), 3 + 5);
        due("the acts stay", x.at(3), 2);
        due("a box", Check.tell(x, "l8;b1 1 9/100;l9;"), 3);
        for (int what = 0; what < 4; what++) {
            due("at(" + what + ")", x.at(what), 0);
        }
        due("undo()", x.undo(), -3);
        due("mass()", x.mass(), 1000000);
        due("open(0, 1)", x.open(0, 1), 3);
        // What was planned ahead of a text of one statement isn't told behind it.
        BoxSearch y = Check.with("b2 2 9/50 3/50;");
        due("bestMean()", y.bestMean(), 400);
        due("a bell of 1", Check.tell(y, "l1;"), 1);
        due("bestMean() by the bell", y.bestMean(), 0);
        due("a box of 1 hour", Check.tell(y, "b2 1 8/100;"), 1);
        due("bestMean() with it", y.bestMean(), 60000);
    }

    private static void textRefusals() {
        says("The text in SHELF d: how many STATEMENTS; the FAULT. -1, -11, -12 (no ROW of bytes).");
        BoxSearch x = Check.with("b1 1 9/100;");
        for (int d : new int[] {-1, 8, Integer.MIN_VALUE, Integer.MAX_VALUE}) {
            due("text(" + d + ")", x.text(d), -1);
        }
        due("text(0) of nothing", x.text(0), -11);
        x.keep(0, 1, 0);
        due("text(0) of a box", x.text(0), -12);
        for (int sort = 1; sort < 3; sort++) {
            x.row(0, sort, 3);
            x.put(0, 0, 'l');
            x.put(0, 1, '1');
            x.put(0, 2, ';');
            due("text(0) of sort " + sort, x.text(0), -12);
        }
        due("the bell stays", x.count(1), 99);
        x.row(0, 0, 0);
        due("text(0) of an empty row", x.text(0), -1000);
        x.keep(0, 0, 0);
        due("text(0) of nothing again", x.text(0), -11);
        for (int d = 0; d < 8; d++) {
            Check.put(x, d, "l" + d + ";");
            due("text(" + d + ")", x.text(d), 1);
            due("its bell", x.count(1), d);
        }
    }

    private static void boxRefusals() {
        says("5 which KIN tells of it (-4). -1.");
        BoxSearch x = Check.with("b1 1 9/100;b1 1 9/100;");
        for (int far : FAR) {
            due("box(" + far + ", 0)", x.box(far, 0), -1);
            due("box(0, " + far + ")", x.box(0, far), -1);
        }
        due("box(2, 0)", x.box(2, 0), -1);
        due("box(1, 5)", x.box(1, 5), -4);
        due("box(1, 6)", x.box(1, 6), -1);
        due("box(2, 5)", x.box(2, 5), -1);
    }

    private static void boxFours() {
        says("LATEST (of others -4)");
        BoxSearch x = Check.with("b1 1 9/100;b1 1 9/100!;b1 1 9/100?0;b1 1 9/100<0;b1 1 9/100>1 100;");
        int[] want = {-4, -4, 0, 0, 1};
        for (int b = 0; b < 5; b++) {
            due("box(" + b + ", 4)", x.box(b, 4), want[b]);
        }
        due("box(0, 5)", x.box(0, 5), -4);
        due("box(1, 5)", x.box(1, 5), 4);
        due("box(4, 5)", x.box(4, 5), -4);
        due("box(0, 4) of a rival", Check.with("b1 1 9/100@1;").box(0, 4), 1);
        due("box(0, 5) by the least kin", Check.with("b1 1 9/100;b1 1 9/100>0 100;").box(0, 5), 1);
    }

    private static void stepRefusals() {
        says("Of STEP i of a BOX");
        BoxSearch x = Check.with("b1 1 9/50 8/50;b1 1 7/100;");
        for (int far : FAR) {
            due("step(" + far + ", 0, 0)", x.step(far, 0, 0), -1);
            due("step(0, " + far + ", 0)", x.step(0, far, 0), -1);
            due("step(0, 0, " + far + ")", x.step(0, 0, far), -1);
        }
        due("step(0, 1, 0)", x.step(0, 1, 0), 8);
        due("step(0, 2, 0)", x.step(0, 2, 0), -1);
        due("step(1, 0, 0)", x.step(1, 0, 0), 7);
        due("step(1, 1, 0)", x.step(1, 1, 0), -1);
        due("step(2, 0, 0)", x.step(2, 0, 0), -1);
        due("step(0, 0, 3)", x.step(0, 0, 3), -1);
    }

    private static void stepFours() {
        says("2 the OTHER CHANCE that a KIN tells of it (-4)");
        BoxSearch x = Check.with("b1 1 9/50 8/50;b1 1 7/100;b1 1 7/100>1 100;");
        due("step(0, 0, 2)", x.step(0, 0, 2), -4);
        due("step(0, 2, 2)", x.step(0, 2, 2), -1);
        due("step(1, 0, 2)", x.step(1, 0, 2), 100);
        due("step(2, 0, 2)", x.step(2, 0, 2), -4);
        x.open(2, 0);
        due("wherever one is", x.step(1, 0, 2), 100);
    }

    private static void priceCalls() {
        says("PRICE of a BOX: what it was. -1.");
        BoxSearch x = Check.with("b5 1 90/100;b6 1 90/100;");
        due("price(0, 0)", x.price(0, 0), 5);
        due("price(0, 999)", x.price(0, 999), 0);
        for (int far : FAR) {
            due("price(0, " + far + ")", x.price(0, far), -1);
            due("price(" + far + ", 0)", x.price(far, 0), -1);
        }
        due("price(2, 0)", x.price(2, 0), -1);
        due("box(0, 1)", x.box(0, 1), 999);
        due("number(0, 0) by it", x.number(0, 0), -909);
        due("best() by it", x.best(), 11);
        due("box(1, 1)", x.box(1, 1), 6);
        due("price(0, 999) once more", x.price(0, 999), 999);
        // Each kind stays what it is.
        BoxSearch y = Check.with("b5 2 9/50 8/50;b5 2 9/100?3;b5 2 9/100!;b5 2 9/100<1;b5 2 9/100>0 30 70;");
        int[] fours = {-4, 3, -4, 1, 0};
        for (int b = 0; b < 5; b++) {
            due("price(" + b + ", 7)", y.price(b, 7), 5);
            due("box(" + b + ", 0)", y.box(b, 0), b);
            due("box(" + b + ", 1)", y.box(b, 1), 7);
            due("box(" + b + ", 4)", y.box(b, 4), fours[b]);
            due("price(" + b + ", 5)", y.price(b, 5), 7);
        }
        due("step(0, 1, 2)", y.step(0, 1, 2), 70);
        BoxSearch z = Check.with("b5 2 9/100@3;");
        z.price(0, 9);
        due("a rival's", z.box(0, 4), 3);
        due("a rival", z.box(0, 0), 5);
    }

    private static void bellCalls() {
        says("BELL: what it was. -1.");
        BoxSearch x = new BoxSearch();
        due("bell(0)", x.bell(0), 99);
        due("bell(99)", x.bell(99), 0);
        due("bell(100)", x.bell(100), -1);
        for (int far : FAR) {
            due("bell(" + far + ")", x.bell(far), -1);
        }
        due("bell(50)", x.bell(50), 99);
        due("count(1)", x.count(1), 50);
    }
}

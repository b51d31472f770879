import java.util.Random;

/** Promises 2 to 6: texts and boxes. */
public final class TextTest {
    private static final Check CHECK = new Check("TextTest");
    private static final String SIGNS = "bl 0123456789/?!<>@;x-\u0000";

    public static void main(String[] args) {
        faultsOfForm();
        faultsOfSense();
        allOrNothing();
        shelves();
        boxes();
        steps();
        prices();
        bells();
        random();
        CHECK.end();
    }

    private static void due(String call, long got, long want) {
        CHECK.due(call, got, want);
    }

    private static void read(String text, int want) {
        BoxSearch x = new BoxSearch();
        due("'" + text + "'", Check.tell(x, text), want);
        due("'" + text + "' by the oracle", new Oracle().read(text), want);
        if (want < 0) {
            due("count(0) after '" + text + "'", x.count(0), 0);
            due("count(1) after '" + text + "'", x.count(1), 99);
        }
    }

    private static void faultsOfForm() {
        read("", -1000);
        read(";", -1000);
        read("x", -1000);
        read("5", -1000);
        read(" b1 1 9/100;", -1000);
        read("B1 1 9/100;", -1000);
        read("b", -1001);
        read("b ", -1001);
        read("b1", -1002);
        read("b1;", -1002);
        read("b1 ", -1003);
        read("b1 1", -1004);
        read("b00 1 9/100;", -1002);
        read("b01 1 9/100;", -1002);
        read("b1000 1 9/100;", -1004);
        read("b999 1 9/100;", 1);
        read("b1 1 ", -1005);
        read("b1 1  9/100;", -1005);
        read("b1 1 9;", -1006);
        read("b1 1 9/;", -1007);
        read("b1 1 9/100", -1010);
        read("b1 1 9/1000;", -1010);
        read("b1 1 9/100 ;", -1011);
        read("b1 1 9/100 !;", -1011);
        read("b1 1 9/100!!;", -1011);
        read("b1 1 9/100?;", -1011);
        read("b1 1 9/100?1!;", -1012);
        read("b1 1 9/100?1", -1012);
        read("b1 1 9/100<;", -1011);
        read("b1 1 9/100>;", -1011);
        read("b1 1 9/100>0 ;", -1013);
        read("b1 1 9/100@;", -1011);
        read("b1 1 9/100@1 2;", -1012);
        read("b1 1 9/100;;", -1011);
        read("b1 1 9/100;b", -1012);
        read("b1 1 9/100; ", -1011);
        read("b1 1 9/100;b2", -1013);
        read("l;", -1001);
        read("l5", -1002);
        read("l05;", -1002);
        read("l1000;", -1004);
        read("l 5;", -1001);
        read("b1 1 -9/100;", -1005);
        // A fault of form goes ahead of one of sense, wherever it stands.
        read("b1 99 9/100;b1 1 9/100", -1022);
        read("l100;l0!", -1007);
    }

    private static void faultsOfSense() {
        read("b1 1;", -2000);
        read("b1 1!;", -2000);
        read("b1 1 9/20 8/20 7/20 6/20 5/20;", -2000);
        read("b1 1 9/25 8/25 7/25 6/25;", 1);
        read("b1 10 9/100;", -2000);
        read("b1 9 9/100;", 1);
        read("b1 0 0/100;", 1);
        read("b0 0 999/100;", 1);
        read("b1 1 9/0 8/100;", -2000);
        read("b1 1 9/99;", -2000);
        read("b1 1 9/101;", -2000);
        read("b1 1 9/100 8/1;", -2000);
        read("b1 1 9/50 9/50;", -2000);
        read("b1 1 8/50 9/50;", -2000);
        read("b1 1 8/50 7/25 7/25;", -2000);
        read("b1 1 9/100?999;", 1);
        read("b1 1 9/100?0;", 1);
        read("b1 1 9/100<0;", -2000);
        read("b1 1 9/100;b1 1 9/100<1;", -2011);
        read("b1 1 9/100;b1 1 9/100<0;", 2);
        read("b1 1 9/100<1;b1 1 9/100;", -2000);
        read("b1 1 9/100;b1 1 9/100>0 100;", 2);
        read("b1 1 9/100;b1 1 9/100>1 100;", -2011);
        read("b1 1 9/100>0 100;", -2000);
        read("b1 1 9/100;b1 1 9/100>0;", -2011);
        read("b1 1 9/100;b1 1 9/100>0 50 50;", -2011);
        read("b1 1 9/50 8/50;b1 1 9/100>0 100;", -2015);
        read("b1 1 9/50 8/50;b1 1 9/100>0 100 0;", 2);
        read("b1 1 9/50 8/50;b1 1 9/100>0 0 100;", 2);
        read("b1 1 9/50 8/50;b1 1 9/100>0 60 50;", -2015);
        read("b1 1 9/50 8/50;b1 1 9/100>0 60 30;", -2015);
        read("b1 1 9/50 8/50;b1 1 9/100>0 20 20 20 20 20;", -2015);
        read("b1 1 9/50 8/50?1;b1 1 9/100>0 50 50;", -2017);
        read("b1 1 9/50 8/50!;b1 1 9/100>0 50 50;", 2);
        read("b1 1 9/50 8/50@1;b1 1 9/100>0 50 50;", 2);
        read("b1 1 9/100;b1 1 9/100<0;b1 1 9/100>1 100;", 3);
        read("b1 1 9/100;b1 1 9/100>0 100;b1 1 9/100>0 100;", -2028);
        read("b1 1 9/100;b1 1 9/100>0 100;b1 1 9/100>1 100;", 3);
        read("b1 1 9/100@0;", -2000);
        read("b1 1 9/100@1;", 1);
        read("b1 1 9/100@99;", 1);
        read("b1 1 9/100@100;", -2000);
        read("l0;", 1);
        read("l99;", 1);
        read("l100;", -2000);
        read("l5;l6;b1 1 9/100;", 3);
        read("l5;b1 1 9/99;b1 1 9/98;", -2003);
        String box = "b1 1 9/100;";
        read(box + box + box + box + box, 5);
        read(box + box + box + box + box + "l9;" + box, -2058);
        read("l9;" + box + box + box + box + box + box + box, -2058);
    }

    private static void allOrNothing() {
        BoxSearch x = Check.with("b1 2 9/50 3/50;");
        x.open(0, 1);
        due("a fault", Check.tell(x, "l7;b1 1 9/100;b1 1 9/99;"), -2014);
        due("count(0)", x.count(0), 1);
        due("count(1)", x.count(1), 99);
        due("at(0)", x.at(0), 4);
        due("a bell alone", Check.tell(x, "l7;l8;"), 2);
        due("count(1) by it", x.count(1), 8);
        due("the place is as it was", x.at(0), 4);
        due("the acts are as they were", x.at(3), 1);
        due("a box comes", Check.tell(x, "b4 1 9/100<0;"), 1);
        due("count(0) with it", x.count(0), 2);
        due("the first place again", x.at(0), 0);
        due("no acts", x.at(3), 0);
        due("nothing to undo", x.undo(), -3);
        due("has", x.at(1), 0);
        due("a KIN of one told in an earlier text", Check.tell(x, "b1 1 9/100>0 30 70;"), 1);
        due("one more", Check.tell(x, "b1 1 9/100>0 30 70;"), -2000);
    }

    private static void shelves() {
        BoxSearch x = Check.with("b1 1 9/100;");
        due("text(-1)", x.text(-1), -1);
        due("text(8)", x.text(8), -1);
        due("text(0) without a row", x.text(0), -11);
        x.keep(0, 1, 0);
        due("text(0) of a box", x.text(0), -12);
        x.row(0, 1, 3);
        due("text(0) of shorts", x.text(0), -12);
        x.row(0, 2, 3);
        due("text(0) of ints", x.text(0), -12);
        x.row(0, 0, 3);
        due("text(0) of zeros", x.text(0), -1000);
        x.put(0, 0, 'l' + 256);
        x.put(0, 1, '4' - 256);
        x.put(0, 2, ';');
        due("text(0) by the lowest bits", x.text(0), 1);
        due("count(1)", x.count(1), 4);
    }

    private static void boxes() {
        BoxSearch x = Check.with("b10 1 90/60 5/40;b20 2 80/100?7;b30 3 70/100!;b40 4 60/100<2;",
            "b50 5 50/100>0 0 100;");
        int[][] want = {{0, 10, 1, 2, -4, 4}, {1, 20, 2, 1, 7, -4}, {2, 30, 3, 1, -4, -4}, {3, 40, 4, 1, 2, -4},
            {4, 50, 5, 1, 0, -4}};
        for (int b = 0; b < 5; b++) {
            for (int what = 0; what < 6; what++) {
                due("box(" + b + ", " + what + ")", x.box(b, what), want[b][what]);
            }
            due("box(" + b + ", -1)", x.box(b, -1), -1);
            due("box(" + b + ", 6)", x.box(b, 6), -1);
        }
        due("box(-1, 0)", x.box(-1, 0), -1);
        due("box(5, 0)", x.box(5, 0), -1);
        BoxSearch y = Check.with("b1 1 9/100@33;");
        due("box(0, 0) of a rival", y.box(0, 0), 5);
        due("box(0, 4) of a rival", y.box(0, 4), 33);
        due("box(1, 0)", y.box(1, 0), -1);
        due("box(0, 0) of none", new BoxSearch().box(0, 0), -1);
    }

    private static void steps() {
        BoxSearch x = Check.with("b1 1 90/40 20/35 5/15 0/10;b1 1 9/100>0 70 0 0 30;");
        int[][] want = {{90, 40, 70}, {20, 35, 0}, {5, 15, 0}, {0, 10, 30}};
        for (int i = 0; i < 4; i++) {
            for (int what = 0; what < 3; what++) {
                due("step(0, " + i + ", " + what + ")", x.step(0, i, what), want[i][what]);
            }
        }
        due("step(1, 0, 2)", x.step(1, 0, 2), -4);
        due("step(1, 1, 0)", x.step(1, 1, 0), -1);
        due("step(0, 4, 0)", x.step(0, 4, 0), -1);
        due("step(0, -1, 0)", x.step(0, -1, 0), -1);
        due("step(2, 0, 0)", x.step(2, 0, 0), -1);
        due("step(-1, 0, 0)", x.step(-1, 0, 0), -1);
        due("step(0, 0, 3)", x.step(0, 0, 3), -1);
        due("step(0, 0, -1)", x.step(0, 0, -1), -1);
    }

    private static void prices() {
        BoxSearch x = Check.with("b5 1 90/100?3;b6 2 8/100<0;");
        due("number(0, 0)", x.number(0, 0), 85);
        due("bestMean()", x.bestMean(), 850000);
        due("price(0, 999)", x.price(0, 999), 5);
        due("price(0, 0)", x.price(0, 0), 999);
        due("box(0, 1)", x.box(0, 1), 0);
        due("box(0, 0) stays", x.box(0, 0), 1);
        due("box(0, 4) stays", x.box(0, 4), 3);
        due("number(0, 0) with it", x.number(0, 0), 90);
        due("bestMean() with it", x.bestMean(), 900000);
        due("price(0, -1)", x.price(0, -1), -1);
        due("price(0, 1000)", x.price(0, 1000), -1);
        due("price(2, 1)", x.price(2, 1), -1);
        due("price(-1, 1)", x.price(-1, 1), -1);
        due("price(0, 7)", x.price(0, 7), 0);
        x.open(0, 0);
        due("price of an open one", x.price(0, 8), 7);
        due("the place stays", x.at(0), 3);
    }

    private static void bells() {
        BoxSearch x = Check.with("b5 3 90/100;b6 2 8/100;");
        due("bell(100)", x.bell(100), -1);
        due("bell(-1)", x.bell(-1), -1);
        due("bell(2)", x.bell(2), 99);
        due("may(0)", x.may(0), 0);
        due("may(1)", x.may(1), 1);
        due("best()", x.best(), 11);
        due("bell(0)", x.bell(0), 2);
        due("best() then", x.best(), 0);
        due("bell(99)", x.bell(99), 0);
        due("best() again", x.best(), 10);
        x.open(0, 0);
        due("bell(4)", x.bell(4), 99);
        due("at(0) stays", x.at(0), 3);
        due("may(1) by what is spent", x.may(1), 0);
        due("bell(5)", x.bell(5), 4);
        due("may(1) at the bell", x.may(1), 1);
        due("bell(1) below what is spent", x.bell(1), 5);
        due("at(2)", x.at(2), 3);
        due("undo()", x.undo(), 0);
    }

    /** Right texts with a few signs changed. */
    private static void random() {
        Random random = new Random(7);
        String[] parts = {"b1 1 9/50 3/50;", "b10 2 90/20 8/80?5;", "b7 0 30/100!;", "l12;", "b5 1 4/30 2/70<0;",
            "b1 1 9/100>0 40 60;", "b3 3 77/10 5/20 1/70@9;"};
        for (int round = 0; round < 20000; round++) {
            StringBuilder text = new StringBuilder();
            int many = random.nextInt(7);
            for (int k = 0; k < many; k++) {
                text.append(parts[random.nextInt(parts.length)]);
            }
            for (int k = random.nextInt(4); k > 0; k--) {
                change(random, text);
            }
            if (text.length() > 120) {
                text.setLength(120);
            }
            BoxSearch x = new BoxSearch();
            Oracle oracle = new Oracle();
            due("'" + text + "'", Check.tell(x, text.toString()), oracle.read(text.toString()));
            due("count(0) after '" + text + "'", x.count(0), oracle.boxes.size());
            due("count(1) after '" + text + "'", x.count(1), oracle.bell);
        }
    }

    private static void change(Random random, StringBuilder text) {
        int where = random.nextInt(text.length() + 1);
        char sign = SIGNS.charAt(random.nextInt(SIGNS.length()));
        if (random.nextInt(3) == 0 || where == text.length()) {
            text.insert(where, sign);
        } else if (random.nextBoolean()) {
            text.setCharAt(where, sign);
        } else {
            text.deleteCharAt(where);
        }
    }
}

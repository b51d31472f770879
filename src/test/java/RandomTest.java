import java.util.Random;

/** Random searches, with every answer compared with the oracle's. */
public final class RandomTest {
    private static final Check CHECK = new Check("RandomTest");
    /** As many boxes, steps and worths as there can be. */
    private static final String[][] FULL = {
        {"b31 1 990/20 500/25 300/25 10/30;", "b43 1 991/25 501/25 301/25 11/25;", "b37 2 992/22 502/25 302/25 12/28;",
            "b41 1 993/20 503/25 303/25 13/30;", "b39 3 994/25 504/25 304/25 14/25?5;"},
        {"b31 1 990/20 500/25 300/25 10/30;", "b43 1 91/25 51/25 31/25 11/25>0 90 0 5 5;",
            "b7 2 92/22 52/25 32/25 12/28>1 10 20 30 40;", "b4 1 93/20 53/25 33/25 13/30!;",
            "b3 3 94/25 54/25 34/25 14/25>3 20 20 30 30;"},
        {"b61 1 999/20 500/25 300/25 10/30@3;", "b43 2 991/25 501/25 301/25 11/25<0;",
            "b37 2 992/22 502/25 302/25 12/28?4;", "b41 1 993/20 503/25 303/25 13/30!;", "l6;",
            "b39 3 994/25 504/25 304/25 14/25@2;"},
        {"b3 1 90/20 50/80;", "b4 1 9/25 5/75>0 90 10;", "b3 2 92/22 5/78>1 10 90;", "b4 1 93/20 5/80>2 40 60;",
            "b3 3 94/25 54/75>3 20 80;"}};
    private final Random random;
    private final BoxSearch x = new BoxSearch();
    private final Oracle oracle = new Oracle();
    private Oracle.Spot spot;
    private String told = "";

    private RandomTest(long seed) {
        random = new Random(seed);
    }

    public static void main(String[] args) {
        int rounds = args.length > 1 ? Integer.parseInt(args[1]) : 400;
        for (int round = 0; round < rounds; round++) {
            new RandomTest(round).play(1 + round % 5);
        }
        for (String[] texts : FULL) {
            new RandomTest(rounds).playFull(texts);
        }
        CHECK.end();
    }

    private int upTo(int most) {
        return random.nextInt(most + 1);
    }

    /** Chances that make 100 together, each at least so much. */
    private int[] chances(int steps, int least) {
        int[] row = new int[steps];
        int left = 100 - least * steps;
        for (int i = 0; i < steps; i++) {
            int share = i == steps - 1 ? left : upTo(left);
            if (random.nextInt(3) == 0 && i < steps - 1) {
                share = share / 10 * 10;
            }
            row[i] = least + share;
            left -= share;
        }
        return row;
    }

    private String statement(int scale) {
        int steps = 1 + upTo(scale > 4 ? 1 : scale > 3 ? 2 : 3);
        StringBuilder s = new StringBuilder("b");
        int most = random.nextInt(4) == 0 ? 999 : 10 + upTo(90);
        s.append(random.nextInt(6) == 0 ? 0 : upTo(most / 3 + 1)).append(' ').append(upTo(4));
        int worth = most;
        int[] c = chances(steps, 1);
        for (int i = 0; i < steps; i++) {
            worth = i == 0 ? Math.max(steps, upTo(worth)) : i == steps - 1 && random.nextInt(3) == 0 ? 0
                : steps - 1 - i + upTo(worth - 1 - (steps - 1 - i));
            s.append(' ').append(worth).append('/').append(c[i]);
        }
        int size = oracle.boxes.size();
        switch (upTo(6)) {
            case 0: case 1: s.append('?').append(upTo(6)); break;
            case 2: s.append('!'); break;
            case 3: if (size > 0) s.append('<').append(upTo(size - 1)); break;
            case 4: if (size > 0) appendKin(s, upTo(size - 1)); break;
            case 5: s.append('@').append(1 + upTo(6)); break;
            default: break;
        }
        return s.append(';').toString();
    }

    private void appendKin(StringBuilder s, int of) {
        if (oracle.boxes.get(of).kind == 1 || oracle.kin(of) >= 0) {
            return;
        }
        s.append('>').append(of);
        for (int c : chances(oracle.boxes.get(of).worth.length, 0)) {
            s.append(' ').append(c);
        }
    }

    private void play(int scale) {
        for (int k = 0; k < scale; k++) {
            String s = statement(scale);
            if (random.nextInt(3) == 0) {
                s = s + "l" + (2 + upTo(12)) + ";";
            }
            told += s;
            due("text", Check.tell(x, s), oracle.read(s));
        }
        spot = oracle.first();
        tellOfBoxes();
        tellOfEdge(upTo(scale - 1));
        for (int turn = 0; turn < 3; turn++) {
            tellOfPlans();
            wander();
        }
        tellOfPlans();
        if (random.nextBoolean()) {
            int box = upTo(scale - 1);
            int n = upTo(60);
            due("price", x.price(box, n), oracle.boxes.get(box).price);
            oracle.boxes.get(box).price = n;
            oracle.forget();
            tellOfPlans();
        }
        changeAndRestore(scale);
        tellOfStreets();
        tellOfRuns();
        tellOfPrices();
        tellOfPlans();
    }

    private void playFull(String[] texts) {
        for (String s : texts) {
            told += s;
            due("text", Check.tell(x, s), oracle.read(s));
        }
        spot = oracle.first();
        tellOfBoxes();
        tellOfPlans();
        wander();
        tellOfPlans();
        tellOfStreets();
        tellOfRuns();
        due("edge 0", x.edge(0) < 0 || !oracle.beginsAt(spot, 0, x.edge(0)) ? 1 : 0, 1);
        due("setPrice", x.setPrice(2), oracle.setPrice(2));
    }

    /** What was planned ahead of a change must not be told behind it. */
    private void changeAndRestore(int scale) {
        due("image", x.image(), scale);
        x.price(upTo(scale - 1), upTo(999));
        x.best();
        x.bell(upTo(99));
        x.setPrice(upTo(scale - 1));
        while (x.undo() > 0) {
            x.edge(upTo(scale - 1));
        }
        due("restore", x.restore(), scale);
        int bell = upTo(12);
        due("bell", x.bell(bell), oracle.bell);
        oracle.bell = bell;
        oracle.forget();
        tellOfPlans();
    }

    private void due(String call, long got, long want) {
        String where = spot == null ? "" : " at " + spot.code() + " has " + spot.has();
        CHECK.due(told + where + " bell " + oracle.bell + ": " + call, got, want);
    }

    private void tellOfBoxes() {
        int size = oracle.boxes.size();
        due("count(0)", x.count(0), size);
        due("count(1)", x.count(1), oracle.bell);
        int steps = 0;
        for (int b = 0; b < size; b++) {
            Oracle.OBox o = oracle.boxes.get(b);
            long[] want = {o.kind, o.price, o.hours, o.worth.length, o.extra, oracle.kin(b)};
            for (int what = 0; what < 6; what++) {
                due("box(" + b + "," + what + ")", x.box(b, what), want[what]);
            }
            for (int i = 0; i < o.worth.length; i++) {
                int other = oracle.kin(b) < 0 ? -4 : oracle.boxes.get(oracle.kin(b)).other[i];
                due("step 0", x.step(b, i, 0), o.worth[i]);
                due("step 1", x.step(b, i, 1), o.chance[i]);
                due("step 2", x.step(b, i, 2), other);
            }
            steps += o.worth.length;
        }
        due("count(2)", x.count(2), steps);
    }

    private void tellOfPlans() {
        Oracle.Spot s = spot;
        int size = oracle.boxes.size();
        due("at(0)", x.at(0), s.code());
        due("at(1)", x.at(1), s.has());
        due("at(2)", x.at(2), oracle.spent(s));
        due("mass", x.mass(), oracle.mass(s));
        due("rule", x.rule(), oracle.rule(s));
        due("ruleMean", x.ruleMean(), oracle.told(s, oracle.ruleMean(s)));
        due("best", x.best(), oracle.best(s));
        due("bestMean", x.bestMean(), oracle.told(s, oracle.bestMean(s)));
        due("loss", x.loss(), oracle.told(s, oracle.bestMean(s)) - oracle.told(s, oracle.ruleMean(s)));
        due("breach", x.breach(), oracle.breach(s));
        int may = 0;
        for (int b = 0; b < size; b++) {
            due("is", x.is(b), s.how[b]);
            due("may", x.may(b), oracle.may(s, b) ? 1 : 0);
            due("number top " + b, x.number(b, 0), oracle.number(s, b).top.longValueExact());
            due("number foot " + b, x.number(b, 1), oracle.number(s, b).foot.longValueExact());
            due("likely " + b + " 0", x.likely(b, 0), oracle.told(s, oracle.likely(s, b, 0)));
            due("likely " + b + " 1", x.likely(b, 1), oracle.told(s, oracle.likely(s, b, 1)));
            may += oracle.may(s, b) ? 1 : 0;
        }
        due("count(5)", x.count(5), may);
    }

    /** One act that can be, and some that can't. */
    private void wander() {
        int b = upTo(oracle.boxes.size() - 1);
        Oracle.OBox o = oracle.boxes.get(b);
        if (random.nextInt(3) == 0) {
            boolean good = random.nextBoolean();
            boolean can = oracle.mayPeep(spot, b) && (good || o.chance[0] < 100);
            due("peep " + b, x.peep(b, good), can ? 1 : -3);
            if (can) {
                spot = spot.with(b, good ? 1 : 2, 0);
            }
        }
        b = upTo(oracle.boxes.size() - 1);
        int i = upTo(oracle.boxes.get(b).worth.length - 1);
        boolean can = oracle.may(spot, b) && oracle.shownChances(spot, b)[i] > 0;
        Oracle.Spot then = can ? oracle.opened(spot, b, i) : spot;
        due("open " + b + " " + i, x.open(b, i), can ? then.has() : -3);
        spot = then;
    }

    private void tellOfStreets() {
        int size = oracle.boxes.size();
        int[] order = new int[upTo(size)];
        int met = 0;
        for (int i = 0; i < order.length; i++) {
            do {
                order[i] = upTo(size - 1);
            } while ((met & 1 << order[i]) != 0);
            met |= 1 << order[i];
        }
        Oracle.Spot s = oracle.first();
        due("street", Check.street(x, order), oracle.told(s, oracle.street(s, order, 0)));
        if (size < 5 || random.nextInt(4) == 0) {
            due("bestStreet", x.bestStreet(), oracle.bestStreet());
        }
    }

    private void tellOfRuns() {
        for (int k = 0; k < 6; k++) {
            int z = random.nextInt();
            due("run(0," + z + ")", x.run(0, z), oracle.run(0, z));
            due("run(1," + z + ")", x.run(1, z), oracle.run(1, z));
        }
    }

    private void tellOfPrices() {
        int size = oracle.boxes.size();
        int b = upTo(size - 1);
        due("setPrice " + b, x.setPrice(b), oracle.setPrice(b));
        for (b = 0; b < size; b++) {
            tellOfEdge(b);
        }
    }

    private void tellOfEdge(int b) {
        int edge = x.edge(b);
        if (spot.how[b] >= 3) {
            due("edge " + b, edge, -3);
        } else if (oracle.boxes.size() <= 2) {
            due("edge " + b, edge, oracle.edge(spot, b));
        } else {
            boolean right = edge >= 0 && !oracle.beginsAt(spot, b, edge)
                && (edge == 0 || oracle.beginsAt(spot, b, edge - 1))
                && (edge == 0 || oracle.beginsAt(spot, b, upTo(edge - 1)));
            due("edge " + b + " = " + edge, right ? 1 : 0, 1);
        }
    }
}

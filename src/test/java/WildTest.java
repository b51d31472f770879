import java.util.Random;

/** Any calls with any numbers: nothing is thrown but what the document says, and a refused call changes nothing. */
public final class WildTest {
    private static final Check CHECK = new Check("WildTest");
    private static final long REFUSED = -4611686018427387904L;
    private static final String[] TEXTS = {
        "b10 1 90/50 20/50;", "b5 2 40/60 10/40?2;", "b3 1 60/30 5/70!;", "b4 1 70/50 1/50<0;", "l9;", "l20;",
        "b1 0 9/50 8/50>0 10 90;", "b2 1 80/20 7/80@4;", "b9 1 99/25 50/25 25/25 0/25;", "b1 1 9/99;", "x", "b1"};
    private static final int[] WILD = {Integer.MIN_VALUE, -1000, -5, -1, 8, 9, 120, 121, 1000, Integer.MAX_VALUE};

    private final Random random;
    private final BoxSearch x = new BoxSearch();

    private WildTest(long seed) {
        random = new Random(seed);
    }

    public static void main(String[] args) {
        for (int round = 0; round < 150; round++) {
            WildTest test = new WildTest(round);
            for (int call = 0; call < 400; call++) {
                test.call(round);
            }
        }
        CHECK.end();
    }

    private int n() {
        return random.nextInt(6) == 0 ? WILD[random.nextInt(WILD.length)] : random.nextInt(6);
    }

    private void call(int round) {
        int which = random.nextInt(37);
        String before = state();
        boolean refused;
        try {
            refused = answer(which);
        } catch (IllegalArgumentException e) {
            CHECK.due("round " + round + ": IllegalArgumentException of call " + which, which == 24 || which == 31);
            refused = true;
        } catch (IllegalStateException e) {
            CHECK.due("round " + round + ": IllegalStateException of call " + which, which == 31);
            refused = true;
        } catch (RuntimeException e) {
            CHECK.due("round " + round + ": " + e + " of call " + which, false);
            return;
        }
        // Calls that only tell change nothing either.
        boolean tells = which == 1 || which == 2 || (which >= 5 && which <= 6) || (which >= 10 && which <= 25)
            || which == 27 || (which >= 33 && which <= 35);
        if (refused || tells) {
            CHECK.due("round " + round + ": nothing changes by call " + which, before.equals(state()));
        }
    }

    /** Makes a call: whether it was refused. */
    private boolean answer(int which) {
        switch (which) {
            case 0: return x.text(n()) < 0;
            case 1: return x.box(n(), n()) < 0;
            case 2: return x.step(n(), n(), n()) < 0;
            case 3: return x.price(n(), n() * 3) < 0;
            case 4: return random.nextInt(4) == 0 && x.bell(n() * 3) < 0;
            case 5: return x.is(n()) < 0;
            case 6: return x.may(n()) < 0;
            case 7: return x.open(n(), n()) < 0;
            case 8: return x.peep(n(), random.nextBoolean()) < 0;
            case 9: return x.undo() < 0;
            case 10: return x.at(n()) < 0;
            case 11: return x.mass() < 1;
            case 12: return x.number(n(), n()) == REFUSED;
            case 13: return x.rule() == -4;
            case 14: return x.ruleMean() == REFUSED;
            case 15: return x.best() < 0;
            case 16: return x.bestMean() == REFUSED;
            case 17: return x.loss() < 0;
            case 18: return x.breach() < 0;
            case 19: return x.likely(n(), n()) < 0;
            case 20: return x.edge(n()) < 0;
            case 21: return x.setPrice(n()) < 0;
            case 22: return x.street(n()) == REFUSED;
            case 23: return x.bestStreet() < 0;
            case 24: return x.run(n(), random.nextInt()) == REFUSED;
            case 25: return x.count(n()) < 0;
            case 26: return random.nextInt(4) == 0 && x.image() < 0;
            case 27: return x.weight(n()) < 0;
            case 28: return random.nextInt(9) == 0 && x.restore() < 0;
            case 29: return x.keep(n(), n(), n()) < 0;
            case 30: return x.row(n(), n(), n()) < 0;
            case 31: x.element(n(), n()); return true;
            case 32: return x.copy(n(), n(), n(), n(), n()) < 0;
            case 33: return x.toss(n()) < 0;
            case 34: return x.loss() < 0;
            case 35: x.put(7, 0, 0); return true;
            default: tellOne(); return false;
        }
    }

    private void tellOne() {
        // Shelf 5 is not looked at by state(), so that a text may come by it.
        Check.put(x, 5, TEXTS[random.nextInt(TEXTS.length)]);
        if (x.count(0) < 5) {
            String before = state();
            if (x.text(5) < 0) {
                CHECK.due("a fault changes nothing", before.equals(state()));
            }
        }
    }

    /** All that can be asked, but the plans. */
    private String state() {
        StringBuilder s = new StringBuilder();
        for (int what = 0; what < 6; what++) {
            s.append(x.count(what)).append(' ').append(x.at(what)).append(' ');
        }
        for (int b = 0; b < x.count(0); b++) {
            s.append(x.is(b)).append('|');
            for (int what = 0; what < 6; what++) {
                s.append(x.box(b, what)).append(' ');
            }
            for (int i = 0; i < x.box(b, 3); i++) {
                s.append(x.step(b, i, 0)).append('/').append(x.step(b, i, 1)).append('/').append(x.step(b, i, 2));
            }
        }
        for (int d = 0; d < 5; d++) {
            s.append(x.weight(d)).append(' ').append(x.toss(d)).append(' ');
            for (int i = 0; i < 6; i++) {
                try {
                    s.append(x.element(d, i)).append(' ');
                } catch (IllegalStateException e) {
                    s.append('-');
                }
            }
        }
        return s.toString();
    }
}

/** What the tests share: counting wrong answers, and handing texts to a search. */
final class Check {
    private final String title;
    private int calls;
    private int wrong;

    Check(String title) {
        this.title = title;
    }

    void due(String call, long got, long want) {
        calls++;
        if (got != want) {
            wrong++;
            if (wrong <= 40) {
                System.out.println(title + ": " + call + " answered " + got + ", due is " + want);
            }
        }
    }

    void due(String call, boolean got) {
        due(call, got ? 1 : 0, 1);
    }

    /** Ends the test: exit code 1 if an answer was wrong, or if there was none. */
    void end() {
        System.out.println(title + ": " + calls + " answers, " + wrong + " wrong");
        if (wrong != 0 || calls == 0) {
            System.exit(1);
        }
    }

    /** A row of bytes with the text comes to shelf d. */
    static void put(BoxSearch x, int d, String text) {
        x.row(d, 0, text.length());
        for (int i = 0; i < text.length(); i++) {
            x.put(d, i, text.charAt(i));
        }
    }

    /** The text is read by way of shelf 7. */
    static int tell(BoxSearch x, String text) {
        put(x, 7, text);
        return x.text(7);
    }

    /** A new search with texts that must have no fault. */
    static BoxSearch with(String... texts) {
        BoxSearch x = new BoxSearch();
        for (String text : texts) {
            int answer = tell(x, text);
            if (answer < 1) {
                throw new IllegalStateException(text + " answered " + answer);
            }
        }
        return x;
    }

    static long street(BoxSearch x, int... order) {
        x.row(6, 0, order.length);
        for (int i = 0; i < order.length; i++) {
            x.put(6, i, order[i]);
        }
        return x.street(6);
    }
}

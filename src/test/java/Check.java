import java.io.IOException;
import java.nio.file.Files;
import java.nio.file.Path;

/** What the tests share: counting wrong answers, and handing texts to a search. */
final class Check {
    private static final Path DOCUMENT = Path.of("../shared/DOC.md");
    private final String title;
    private String document = "";
    private String words = "";
    private int calls;
    private int wrong;

    Check(String title) {
        this.title = title;
    }

    /** The document's words that the next answers are about. */
    void says(String text) {
        words = "[" + text + "] ";
        if (!readDocument().contains(text)) {
            // No wrong answer: but whoever changes the document should look at this test again.
            System.out.println(title + ": the document doesn't say " + words);
        }
    }

    private String readDocument() {
        try {
            if (document.isEmpty() && Files.exists(DOCUMENT)) {
                document = Files.readString(DOCUMENT);
            }
        } catch (IOException e) {
            System.out.println(title + ": " + DOCUMENT + " can't be read");
        }
        return document;
    }

    void due(String call, long got, long want) {
        calls++;
        if (got != want) {
            wrong++;
            if (wrong <= 40) {
                System.out.println(title + ": " + words + call + " answered " + got + ", due is " + want);
            }
        }
    }

    void due(String call, boolean got) {
        due(call, got ? 1 : 0, 1);
    }

    /** Ends the test: exit code 1 if an answer was wrong, or if there was none. */
    void end() {
        System.out.println(title + ": " + calls + " answers, " + wrong + " wrong");
        if (wrong != 0 || calls == 0) {
            System.exit(1);
        }
    }

    /** A row of bytes with the text comes to shelf d. */
    static void put(BoxSearch x, int d, String text) {
        x.row(d, 0, text.length());
        for (int i = 0; i < text.length(); i++) {
            x.put(d, i, text.charAt(i));
        }
    }

    /** The text is read by way of shelf 7. */
    static int tell(BoxSearch x, String text) {
        put(x, 7, text);
        return x.text(7);
    }

    /** A new search with texts that must have no fault. */
    static BoxSearch with(String... texts) {
        BoxSearch x = new BoxSearch();
        for (String text : texts) {
            int answer = tell(x, text);
            if (answer < 1) {
                throw new IllegalStateException(text + " answered " + answer);
            }
        }
        return x;
    }

    static long street(BoxSearch x, int... order) {
        x.row(6, 0, order.length);
        for (int i = 0; i < order.length; i++) {
            x.put(6, i, order[i]);
        }
        return x.street(6);
    }
}

import java.io.IOException;
import java.nio.file.Files;
import java.nio.file.Path;
import java.util.Arrays;
import java.util.List;
import java.util.Set;
import java.util.TreeSet;

/**
 * Runs with the answers of a second model: another session wrote it from the document, in another language
 * (Python), behind a reading of the class but without a look at Oracle.
 */
public final class RecordedTest {
    private static final Check CHECK = new Check("RecordedTest");
    private static final Path RUNS = Path.of("src/test/runs/second-model.txt");
    private static final int CALLS_OF_THE_FACE = 35;

    public static void main(String[] args) throws IOException, IllegalAccessException {
        List<String> lines = Files.readAllLines(RUNS);
        Set<String> met = new TreeSet<>();
        BoxSearch x = new BoxSearch();
        for (int k = 0; k < lines.size(); k++) {
            String line = lines.get(k);
            if (line.equals("new")) {
                x = new BoxSearch();
                continue;
            }
            int sign = line.lastIndexOf(" = ");
            String want = line.substring(sign + 3);
            String got = play(x, line.substring(0, sign), met);
            CHECK.due("line " + (k + 1) + ", " + line + ", but it was " + got, got.equals(want));
        }
        CHECK.due("all calls of the face are met: " + met, met.size(), CALLS_OF_THE_FACE);
        CHECK.end();
    }

    private static String play(BoxSearch x, String call, Set<String> met) throws IllegalAccessException {
        String[] words = call.split(" ");
        if (words[0].equals("tell")) {
            int shelf = Integer.parseInt(words[1]);
            Check.put(x, shelf, call.substring(call.indexOf('"') + 1, call.lastIndexOf('"')));
            return Integer.toString(x.text(shelf));
        }
        met.add(words[0]);
        return Calls.answer(x, words[0], Arrays.copyOfRange(words, 1, words.length));
    }
}

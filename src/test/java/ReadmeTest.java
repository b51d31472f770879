import java.io.IOException;
import java.nio.file.Files;
import java.nio.file.Path;
import java.util.regex.Matcher;
import java.util.regex.Pattern;

/** What README.md says of calls and of statements is so. */
public final class ReadmeTest {
    private static final Check CHECK = new Check("ReadmeTest");
    private static final Pattern TEXT = Pattern.compile("String text = \"([^\"]*)\";");
    private static final Pattern CALL = Pattern.compile("x\\.(\\w+)\\(([-\\d, ]*)\\);\\s*// (-?\\d+): .*");
    private static final Pattern STATEMENT = Pattern.compile("\\| `([^`]+;)` \\|.*");
    private static final int LEAST_CALLS = 20;
    private static final int KINDS_AND_BELL = 7;

    public static void main(String[] args) throws IOException, IllegalAccessException {
        BoxSearch x = new BoxSearch();
        int calls = 0;
        int statements = 0;
        for (String line : Files.readAllLines(Path.of("README.md"))) {
            Matcher text = TEXT.matcher(line);
            if (text.matches()) {
                Check.put(x, 0, text.group(1));
            }
            Matcher call = CALL.matcher(line);
            if (call.matches()) {
                String numbers = call.group(2);
                String got = Calls.answer(x, call.group(1), numbers.isEmpty() ? new String[0] : numbers.split(", "));
                CHECK.due(line + " but it was " + got, got.equals(call.group(3)));
                calls++;
            }
            Matcher statement = STATEMENT.matcher(line);
            if (statement.matches()) {
                CHECK.due(line, Check.tell(Check.with("b1 1 9/50 1/50;"), statement.group(1)), 1);
                statements++;
            }
        }
        CHECK.due("calls in README.md", calls >= LEAST_CALLS);
        CHECK.due("statements in README.md", statements, KINDS_AND_BELL);
        CHECK.end();
    }
}

import java.io.IOException;
import java.nio.file.Files;
import java.nio.file.Path;
import java.util.regex.Matcher;
import java.util.regex.Pattern;

/** The example of README.md: each call answers what its comment begins with. */
public final class ReadmeTest {
    private static final Pattern CALL =
            Pattern.compile("network\\.(\\w+)\\((.*)\\); +// (true|false|-?\\d+)?.*");

    public static void main(String[] args) throws IOException {
        Expect expect = new Expect();
        MergingFragments network = new MergingFragments();
        for (String line : Files.readAllLines(Path.of("README.md"))) {
            if (line.startsWith("network.")) {
                playLine(expect, network, line);
            }
        }
        expect.finish();
    }

    private static void playLine(Expect expect, MergingFragments network, String line) {
        Matcher matcher = CALL.matcher(line);
        if (!matcher.matches()) {
            expect.holds("is a call with a comment: " + line, false);
            return;
        }
        String call = (matcher.group(1) + " " + matcher.group(2).replace(",", "")).trim();
        String due = matcher.group(3) == null ? "void" : matcher.group(3);
        expect.equal(call, due, () -> String.valueOf(Calls.make(network, call)));
    }
}

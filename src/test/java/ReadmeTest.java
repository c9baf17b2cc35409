import java.io.IOException;
import java.nio.file.Files;
import java.nio.file.Path;
import java.util.ArrayList;
import java.util.List;

/**
 * The example of README.md answers what its comments say. The lines between the two marks below are
 * those of README.md: the test fails when one is changed without the other. It is run from the
 * directory of README.md, as .ci/run does.
 */
final class ReadmeTest {
    private static final Answers answers = new Answers();

    public static void main(String[] args) throws IOException {
        example();
        List<String> told = between(Path.of("README.md"), "```java", "```");
        List<String> run = between(Path.of("src/test/java/ReadmeTest.java"), "// README.md from here", "// README.md to here");
        answers.due("lines of the example", told.isEmpty(), false);
        answers.due("the example is the one that is run", told.equals(run), true);
        answers.end();
    }

    private static void example() {
        // README.md from here
        SliceVoting s = new SliceVoting(4);               // nodes 0, 1, 2, 3
        for (int v = 0; v < 4; v++) {
            int q = s.quota(v, SliceVoting.NONE, 3);      // the top quota of v: three of
            for (int w = 0; w < 4; w++) {
                s.member(q, w);                           // all four
            }
        }
        s.corrupt(3);                                     // node 3 says what it likes
        for (int v = 0; v < 3; v++) {
            s.propose(v, 1, 2);                           // counter 1, value 2
        }
        s.say(3, 0, 1, 0);                                // node 0 hears a vote for value 0
        for (int round = 0; round < 3; round++) {
            for (int v = 0; v < 3; v++) {
                for (int w = 0; w < 3; w++) {
                    s.deliver(v, w);                      // w hears v (refused when v is w)
                }
            }
        }
        int agreed = s.decided(0);                        // 2
        boolean safe = s.intertwined(0, 1);               // true
        // README.md to here
        answers.due("agreed", agreed, 2);
        answers.due("safe", safe, true);
    }

    /** The first lines of the file that stand between the two marks, without the space around them. */
    private static List<String> between(Path file, String first, String last) throws IOException {
        List<String> lines = new ArrayList<>();
        boolean inside = false;
        for (String line : Files.readAllLines(file)) {
            String text = line.strip();
            if (inside && text.equals(last)) {
                return lines;
            }
            if (inside) {
                lines.add(text);
            }
            inside |= text.equals(first);
        }
        return new ArrayList<>();
    }
}

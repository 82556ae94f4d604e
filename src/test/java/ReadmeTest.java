import java.io.IOException;
import java.nio.file.Files;
import java.nio.file.Path;
import java.util.ArrayList;
import java.util.List;

/** README's example does what its comments say, and stands here as it stands there. */
public final class ReadmeTest {
    private static final Path HERE = Path.of("src", "test", "java", "ReadmeTest.java");

    public static void main(String[] args) throws IOException {
        example();
        List<String> told = between(Path.of("README.md"), "```java", "```");
        List<String> made = between(HERE, "// README from here", "// README to here");
        Checks.same("lines of the example", told.size() > 5 ? 1 : 0, 1);
        Checks.same("the example of README.md is the one of ReadmeTest", told.equals(made) ? 1 : 0, 1);
        Checks.end();
    }

    private static void example() {
        // README from here
        FrameSwapper screen = new FrameSwapper();
        int s = screen.surface(0, 6, 4);            // client 0, 6 columns, 4 rows
        screen.fill(s, 0, 0, 6, 4, 63488);          // all of it red, in the draft
        screen.place(s, 2, 1, 1, 16, true);         // column 2, row 1, order 1, alpha 16, visible
        int number = screen.commit(0);              // now it is wanted
        screen.draw(200);                           // the composer begins; 200 steps are more than it ever needs
        for (int i = 0; i < 22; i++) {
            screen.scan();                          // ten rows and the gap, twice: swapped, then scanned
        }
        int color = screen.seen(2, 1);              // 63488, and screen.count(1) == number
        // README to here
        Checks.same("the color", color, 63488);
        Checks.same("the commit that is seen", screen.count(1), number);
        Checks.same("the frames", screen.count(0), 2);
    }

    /** The lines between the first two marks, without what they begin with. */
    private static List<String> between(Path file, String begin, String end) throws IOException {
        List<String> found = new ArrayList<>();
        boolean within = false;
        for (String line : Files.readAllLines(file)) {
            String bare = line.strip();
            if (within && bare.equals(end)) {
                return found;
            }
            if (within) {
                found.add(bare);
            }
            within = within || bare.equals(begin);
        }
        return found;
    }
}

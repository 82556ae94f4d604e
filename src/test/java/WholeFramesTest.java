import java.util.ArrayList;
import java.util.Arrays;
import java.util.HashMap;
import java.util.List;
import java.util.Map;

/**
 * The document's first line: no frame that is scanned shows anything between two commits. Clients and the composer
 * work between any two rows; each frame that is seen must be just what was wanted at the commit that count(1) tells.
 */
public final class WholeFramesTest {
    private static final int PIXELS = 200;
    private static final int ROWS_AND_GAP = 11;

    private final String what;
    private final FrameSwapper screen = new FrameSwapper();
    private final List<String> names = new ArrayList<>();
    private final List<int[]> arguments = new ArrayList<>();
    private final Map<Integer, int[]> wantedAt = new HashMap<>();
    private final List<Integer> shownCommits = new ArrayList<>();

    private WholeFramesTest(String what) {
        this.what = what;
        wantedAt.put(0, new int[PIXELS]);
    }

    public static void main(String[] args) {
        twoSurfacesChangeTogether();
        twoClientsCommitInTurn();
        aSurfaceGoesThroughPlanes();
        aPlaneIsPassedOn();
        aNumberIsUsedAgain();
        whatIsMixedStaysRight();
        Checks.end();
    }

    private int make(String name, int... a) {
        names.add(name);
        arguments.add(a);
        int answer = Calls.make(screen, name, a);
        if (name.equals("commit")) {
            wantedAt.put(answer, allOf("wanted"));
        }
        if (name.equals("scan") && answer == FrameSwapper.NONE) {
            int commit = screen.count(1);
            shownCommits.add(commit);
            boolean whole = Arrays.equals(allOf("seen"), wantedAt.get(commit));
            Checks.same(what + ": frame " + shownCommits.size() + " is whole", whole ? 1 : 0, 1);
        }
        return answer;
    }

    /** All pixels, asked of a new object for which the calls were made again: an object has 512 calls. */
    private int[] allOf(String name) {
        FrameSwapper twin = new FrameSwapper();
        for (int i = 0; i < names.size(); i++) {
            Calls.make(twin, names.get(i), arguments.get(i));
        }
        Checks.same(what + ": no more than 512 calls", names.size() + PIXELS <= 512 ? 1 : 0, 1);
        int[] all = new int[PIXELS];
        for (int i = 0; i < PIXELS; i++) {
            all[i] = Calls.make(twin, name, i % 20, i / 20);
        }
        return all;
    }

    private int patch(int client, int columns, int rows, int color) {
        int s = make("surface", client, columns, rows);
        make("fill", s, 0, 0, columns, rows, color);
        return s;
    }

    private void scans(int many) {
        for (int i = 0; i < many; i++) {
            make("scan");
        }
    }

    private void shows(Integer... commits) {
        boolean same = shownCommits.equals(Arrays.asList(commits));
        Checks.same(what + ": commits shown " + shownCommits, same ? 1 : 0, 1);
    }

    private static void twoSurfacesChangeTogether() {
        WholeFramesTest run = new WholeFramesTest("two surfaces change together");
        int upper = run.patch(0, 10, 3, 111);
        int lower = run.patch(0, 10, 3, 111);
        run.make("place", upper, 0, 0, 0, 16, 1);
        run.make("place", lower, 5, 6, 0, 16, 1);
        run.make("commit", 0);
        run.make("draw", 200);
        run.scans(ROWS_AND_GAP + 7);
        run.make("fill", upper, 0, 0, 10, 3, 222);
        run.make("scan");
        run.make("fill", lower, 0, 0, 10, 3, 222);
        run.make("commit", 0);
        // The gap comes behind three of four steps.
        for (int step = 0; step < 6; step++) {
            run.make("draw", 1);
            run.make("scan");
        }
        run.scans(2 * ROWS_AND_GAP);
        run.shows(0, 1, 1, 2);
    }

    private static void twoClientsCommitInTurn() {
        WholeFramesTest run = new WholeFramesTest("two clients commit in turn");
        int one = run.patch(0, 12, 4, 1000);
        int other = run.patch(3, 12, 4, 2000);
        run.make("place", one, 0, 0, 0, 16, 1);
        run.make("place", other, 4, 2, 1, 8, 1);
        run.make("commit", 0);
        run.make("commit", 3);
        for (int row = 0; row < 4 * ROWS_AND_GAP; row++) {
            if (row % 9 == 4) {
                run.make("place", one, row % 7, 1, 0, 16, 1);
                run.make("place", other, 4, row % 5, row % 2, 8, 1);
                run.make("commit", row % 2 == 0 ? 0 : 3);
            }
            run.make("draw", 1);
            run.make("scan");
        }
        run.make("draw", 200);
        run.scans(2 * ROWS_AND_GAP);
        run.shows(0, 2, 3, 3, 5, 7);
    }

    private static void aSurfaceGoesThroughPlanes() {
        WholeFramesTest run = new WholeFramesTest("a surface goes through planes");
        int s = run.patch(1, 4, 4, 3333);
        int[] alphas = {16, 7, 7, 16, 16};
        for (int i = 0; i < alphas.length; i++) {
            run.make("place", s, 3 * i, i, 0, alphas[i], 1);
            run.make("commit", 1);
            run.scans(5);
            run.make("draw", 200);
            Checks.same("plane(0)", run.screen.plane(0), alphas[i] == 16 ? s : -1);
            run.scans(6);
        }
        run.scans(ROWS_AND_GAP);
        run.shows(0, 1, 2, 3, 4, 5);
    }

    private static void aPlaneIsPassedOn() {
        WholeFramesTest run = new WholeFramesTest("a plane is passed on");
        int first = run.patch(0, 4, 3, 40000);
        int second = run.patch(1, 4, 3, 50000);
        int third = run.patch(2, 4, 3, 60000);
        run.make("place", first, 0, 1, 5, 16, 1);
        run.make("place", second, 6, 1, 4, 16, 1);
        run.make("place", third, 12, 1, 3, 16, 1);
        for (int client = 0; client < 3; client++) {
            run.make("commit", client);
        }
        run.make("draw", 200);
        Checks.same("plane(1)", run.screen.plane(1), second);
        run.scans(3);
        run.make("place", third, 12, 1, 6, 16, 1);
        run.make("commit", 2);
        run.scans(ROWS_AND_GAP);
        run.make("draw", 1);
        Checks.same("plane(0)", run.screen.plane(0), third);
        Checks.same("plane(1)", run.screen.plane(1), first);
        run.scans(ROWS_AND_GAP);
        run.make("draw", 200);
        run.scans(2 * ROWS_AND_GAP);
        run.shows(0, 3, 3, 4);
    }

    private static void aNumberIsUsedAgain() {
        WholeFramesTest run = new WholeFramesTest("a number is used again");
        int s = run.patch(0, 5, 6, 777);
        run.make("place", s, 2, 2, 0, 16, 1);
        run.make("commit", 0);
        run.make("draw", 200);
        run.scans(ROWS_AND_GAP);
        run.make("destroy", s);
        run.make("commit", 0);
        run.scans(2);
        run.make("draw", 1);
        Checks.same("the number", run.patch(1, 6, 5, 888), s);
        run.make("place", s, 4, 4, 0, 16, 1);
        run.make("commit", 1);
        run.scans(3);
        run.make("draw", 200);
        run.scans(6);
        run.make("draw", 200);
        run.scans(ROWS_AND_GAP);
        run.scans(ROWS_AND_GAP);
        run.shows(0, 1, 2, 3);
    }

    private static void whatIsMixedStaysRight() {
        WholeFramesTest run = new WholeFramesTest("what is mixed stays right");
        int[] colors = {63488, 2016, 31, 65535};
        for (int s = 0; s < 4; s++) {
            run.patch(s, 8, 5, colors[s]);
            run.make("place", s, 3 * s, s, s, 5 + 3 * s, 1);
            run.make("commit", s);
        }
        run.make("draw", 200);
        run.scans(ROWS_AND_GAP);
        for (int i = 0; i < 6; i++) {
            run.make("put", i % 4, 7 - i, i % 5, 9999 * i);
            run.make("place", i % 4, 2 * i, 6 - i, 9 - i, 16 - 2 * i, 1);
            run.make("commit", i % 4);
            run.make("draw", 200);
            run.scans(ROWS_AND_GAP);
        }
        run.scans(ROWS_AND_GAP);
        run.shows(0, 4, 5, 6, 7, 8, 9, 10);
    }
}

import java.util.ArrayList;
import java.util.Arrays;
import java.util.HashMap;
import java.util.List;
import java.util.Map;
import java.util.Random;

/**
 * All promises together: runs of calls, right and wrong ones, always the same, against PlainModel; and that what is
 * seen is always what was wanted at one commit. An object has 512 calls: where many pixels are asked, it is a new
 * object for which the run's calls were made again.
 */
public final class RandomRunsTest {
    private static final int RUNS = 300;
    private static final int CALLS = 300;
    private static final String[] NAMES = {"surface", "destroy", "place", "clip", "put", "fill", "copy", "commit",
        "draw", "scan", "state", "seen", "wanted", "count", "missed", "plane", "free", "frame", "noise"};
    private static final int[] WEIGHTS = {10, 1, 16, 3, 2, 5, 6, 10, 12, 2, 2, 1, 1, 1, 3, 1, 2, 4, 3};

    private final Random random;
    private final FrameSwapper screen = new FrameSwapper();
    private final PlainModel model = new PlainModel();
    private final List<String> names = new ArrayList<>();
    private final List<int[]> arguments = new ArrayList<>();
    private final Map<Integer, int[]> wantedAt = new HashMap<>();
    private final int seed;
    private final int mostColumns;
    private final int mostRows;
    private boolean failed;

    private RandomRunsTest(int seed) {
        this.seed = seed;
        random = new Random(seed);
        // Many small surfaces make many rectangles that are missed, and planes; great ones meet.
        int[][] sizes = {{12, 8}, {3, 3}, {6, 5}};
        mostColumns = sizes[seed % 3][0];
        mostRows = sizes[seed % 3][1];
        wantedAt.put(0, new int[200]);
    }

    public static void main(String[] args) {
        for (int seed = 0; seed < RUNS; seed++) {
            new RandomRunsTest(seed).go();
        }
        Checks.end();
    }

    private void go() {
        while (names.size() < CALLS && !failed) {
            int pick = random.nextInt(Arrays.stream(WEIGHTS).sum());
            int kind = 0;
            while (pick >= WEIGHTS[kind]) {
                pick -= WEIGHTS[kind];
                kind++;
            }
            if (NAMES[kind].equals("frame")) {
                makeMany("scan", 8 + random.nextInt(16));
            } else if (NAMES[kind].equals("noise")) {
                makeMany("put", 8);
            } else {
                make(NAMES[kind]);
            }
        }
    }

    private void makeMany(String name, int many) {
        for (int i = 0; i < many && !failed; i++) {
            make(name);
        }
    }

    private void make(String name) {
        int[] a = argumentsFor(name);
        names.add(name);
        arguments.add(a);
        String due = compare(screen, name, a);
        if (name.equals("commit") && due.length() < 6) {
            wantedAt.put(Integer.parseInt(due), compareMany("wanted", 200));
        }
        if (name.equals("scan") && due.equals("-1")) {
            int[] seen = compareMany("seen", 200);
            boolean whole = Arrays.equals(seen, wantedAt.get(model.count(1)));
            Checks.same("run " + seed + ": seen is wanted of commit " + model.count(1), whole ? 1 : 0, 1);
        }
        if (name.equals("draw") || name.equals("scan") && due.equals("-1")) {
            compareMany("missed", 28);
        }
    }

    /** Asks a new object, for which all calls were made again, and answers what the model says. */
    private int[] compareMany(String name, int many) {
        FrameSwapper twin = new FrameSwapper();
        for (int i = 0; i < names.size(); i++) {
            String call = names.get(i);
            int[] a = arguments.get(i);
            answer(() -> Calls.make(twin, call, a));
        }
        int[] all = new int[many];
        int width = name.equals("missed") ? 7 : 20;
        for (int i = 0; i < many && !failed; i++) {
            all[i] = Integer.parseInt(compare(twin, name, new int[] {i % width, i / width}));
        }
        return all;
    }

    private String compare(FrameSwapper object, String name, int[] a) {
        String got = answer(() -> Calls.make(object, name, a));
        String due = answer(() -> callModel(name, a));
        if (!got.equals(due)) {
            failed = true;
            String call = name + Arrays.toString(a);
            Checks.same("run " + seed + ", " + names.size() + " calls: " + call + ": " + got + " for " + due, 1, 0);
        }
        return due;
    }

    private interface Call {
        int make();
    }

    private static String answer(Call call) {
        try {
            return Integer.toString(call.make());
        } catch (RuntimeException e) {
            return e.getClass().getSimpleName();
        }
    }

    private int number(int least, int most) {
        if (random.nextInt(80) == 0) {
            return random.nextBoolean() ? least - 1 : most + 1;
        }
        if (random.nextInt(500) == 0) {
            return random.nextInt();
        }
        return least + random.nextInt(most - least + 1);
    }

    private int near(int least, int most) {
        return random.nextInt(12) == 0 ? number(-20, 30) : number(least, most);
    }

    private int someAlpha() {
        return random.nextInt(seed % 4 + 1) == 0 ? 16 : number(0, 16);
    }

    private int[] argumentsFor(String name) {
        int s = number(0, 9);
        switch (name) {
            case "surface":
                return new int[] {number(0, 3), number(1, mostColumns), number(1, mostRows)};
            case "place":
                return new int[] {s, near(-3, 19), near(-3, 9), number(0, 9), someAlpha(), random.nextInt(8)};
            case "clip":
                return new int[] {s, near(-2, 3), near(-2, 3), near(0, 12), near(0, 9)};
            case "put":
                return new int[] {s, number(0, mostColumns - 1), number(0, mostRows - 1), number(0, 65535)};
            case "fill":
                return new int[] {s, near(-2, 3), near(-2, 3), near(0, 12), near(0, 9), number(0, 65535)};
            case "copy":
                return new int[] {s, random.nextInt(3) == 0 ? number(0, 9) : s, near(-2, 3), near(-2, 3), near(0, 12),
                    near(0, 9), near(-2, 4), near(-2, 4)};
            case "commit":
                return new int[] {number(0, 3)};
            case "draw":
                return new int[] {random.nextInt(2) == 0 ? number(0, 200) : number(0, 9)};
            default:
                return new int[] {random.nextInt(3) == 0 ? number(0, 19) : s, number(0, 9)};
        }
    }

    private int callModel(String name, int[] a) {
        switch (name) {
            case "surface": return model.surface(a[0], a[1], a[2]);
            case "destroy": model.destroy(a[0]); return 0;
            case "place": model.place(a[0], a[1], a[2], a[3], a[4], a[5] != 0); return 0;
            case "clip": model.clip(a[0], a[1], a[2], a[3], a[4]); return 0;
            case "put": model.put(a[0], a[1], a[2], a[3]); return 0;
            case "fill": return model.fill(a[0], a[1], a[2], a[3], a[4], a[5]);
            case "copy": return model.copy(a[0], a[1], a[2], a[3], a[4], a[5], a[6], a[7]);
            case "commit": return model.commit(a[0]);
            case "draw": return model.draw(a[0]);
            case "scan": return model.scan();
            case "state": return model.state();
            case "seen": return model.seen(a[0], a[1]);
            case "wanted": return model.wanted(a[0], a[1]);
            case "count": return model.count(a[0]);
            case "missed": return model.missed(a[0], a[1]);
            case "plane": return model.plane(a[0]);
            default: return model.free();
        }
    }
}

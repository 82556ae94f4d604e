import java.util.ArrayDeque;
import java.util.ArrayList;
import java.util.Comparator;
import java.util.Deque;
import java.util.HashSet;
import java.util.List;
import java.util.Map;
import java.util.Set;
import java.util.TreeMap;

/**
 * The document told a second time, as plainly as it goes and with no care for cost: pictures are values that are
 * never changed, the steps of composing stand in a queue, rectangles are compared by their sets of pixels.
 */
final class PlainModel {
    record Box(int x, int y, int columns, int rows) {
        Set<Integer> pixels() {
            Set<Integer> all = new HashSet<>();
            for (int row = y; row < y + rows; row++) {
                for (int column = x; column < x + columns; column++) {
                    all.add(1000 * (row + 100) + column + 100);
                }
            }
            return all;
        }

        boolean has(int column, int row) {
            return column >= x && row >= y && column - x < columns && row - y < rows;
        }

        boolean meets(Box other) {
            Set<Integer> common = pixels();
            common.retainAll(other.pixels());
            return !common.isEmpty();
        }

        Box hull(Box other) {
            int left = Math.min(x, other.x);
            int top = Math.min(y, other.y);
            int right = Math.max(x + columns, other.x + other.columns);
            int bottom = Math.max(y + rows, other.y + other.rows);
            return new Box(left, top, right - left, bottom - top);
        }
    }

    record Picture(int[][] pixels, int x, int y, int order, int alpha, boolean visible, Box clip) {
        Box shown() {
            int left = Math.max(0, clip.x + x);
            int top = Math.max(0, clip.y + y);
            int right = Math.min(20, clip.x + x + clip.columns);
            int bottom = Math.min(10, clip.y + y + clip.rows);
            boolean none = !visible || clip.pixels().isEmpty() || right <= left || bottom <= top;
            return none ? new Box(0, 0, 0, 0) : new Box(left, top, right - left, bottom - top);
        }

        int over(int below, int column, int row) {
            int own = pixels[row - y][column - x];
            int mixed = 0;
            int[][] parts = {{11, 31}, {5, 63}, {0, 31}};
            for (int[] part : parts) {
                int mine = own >> part[0] & part[1];
                int its = below >> part[0] & part[1];
                mixed |= (alpha * mine + (16 - alpha) * its) / 16 << part[0];
            }
            return mixed;
        }
    }

    private static final class Surface {
        int client;
        int columns;
        int rows;
        Picture draft;
        Picture committed;
        boolean leaves;

        boolean has(int x, int y) {
            return x >= 0 && y >= 0 && x < columns && y < rows;
        }
    }

    private static final class Memory {
        final int[][] pixels = new int[10][20];
        List<Box> misses = new ArrayList<>();
    }

    private final Map<Integer, Surface> surfaces = new TreeMap<>();
    private Map<Integer, Picture> taken = new TreeMap<>();
    private final Set<Integer> committers = new HashSet<>();
    private int commits;
    private int takenCommit;
    private int frontCommit;
    private int seenCommit;
    private int frames;
    private int state;
    private int row;
    private Memory front = new Memory();
    private Memory back = new Memory();
    private final Deque<Runnable> steps = new ArrayDeque<>();
    private List<Integer> chosen = new ArrayList<>();
    private List<Picture> chosenPictures = new ArrayList<>();
    private List<Picture> setPictures = new ArrayList<>();
    private int[][] scanned = new int[10][20];
    private int[][] seen = new int[10][20];

    private static void must(boolean holds) {
        if (!holds) {
            throw new IllegalArgumentException();
        }
    }

    private static boolean in(int value, int least, int most) {
        return least <= value && value <= most;
    }

    private Surface drafted(int s) {
        Surface surface = surfaces.get(s);
        must(surface != null && surface.draft != null);
        return surface;
    }

    int surface(int client, int columns, int rows) {
        must(in(client, 0, 3) && in(columns, 1, 12) && in(rows, 1, 8));
        if (surfaces.size() == 10 || columns * rows > free()) {
            throw new IllegalStateException();
        }
        int number = 0;
        while (surfaces.containsKey(number)) {
            number++;
        }
        Surface surface = new Surface();
        surface.client = client;
        surface.columns = columns;
        surface.rows = rows;
        surface.draft = new Picture(new int[rows][columns], 0, 0, 0, 16, false, new Box(0, 0, columns, rows));
        surfaces.put(number, surface);
        return number;
    }

    void destroy(int s) {
        drafted(s).draft = null;
    }

    void place(int s, int x, int y, int order, int alpha, boolean visible) {
        Surface surface = drafted(s);
        must(in(x, -20, 30) && in(y, -20, 30) && in(order, 0, 9) && in(alpha, 0, 16));
        Picture old = surface.draft;
        surface.draft = new Picture(old.pixels, x, y, order, alpha, visible, old.clip);
    }

    private static void mustBeArea(int x, int y, int columns, int rows) {
        must(in(x, -20, 30) && in(y, -20, 30) && in(columns, 0, 30) && in(rows, 0, 30));
    }

    void clip(int s, int x, int y, int columns, int rows) {
        Surface surface = drafted(s);
        mustBeArea(x, y, columns, rows);
        int left = 99;
        int top = 99;
        int right = 0;
        int bottom = 0;
        for (int j = y; j < y + rows; j++) {
            for (int i = x; i < x + columns; i++) {
                if (surface.has(i, j)) {
                    left = Math.min(left, i);
                    top = Math.min(top, j);
                    right = Math.max(right, i + 1);
                    bottom = Math.max(bottom, j + 1);
                }
            }
        }
        Box box = right == 0 ? new Box(0, 0, 0, 0) : new Box(left, top, right - left, bottom - top);
        Picture old = surface.draft;
        surface.draft = new Picture(old.pixels, old.x, old.y, old.order, old.alpha, old.visible, box);
    }

    private static void repaint(Surface surface, int[][] pixels) {
        Picture old = surface.draft;
        surface.draft = new Picture(pixels, old.x, old.y, old.order, old.alpha, old.visible, old.clip);
    }

    private static int[][] twin(int[][] pixels) {
        int[][] same = new int[pixels.length][];
        for (int i = 0; i < pixels.length; i++) {
            same[i] = pixels[i].clone();
        }
        return same;
    }

    void put(int s, int x, int y, int color) {
        Surface surface = drafted(s);
        must(in(color, 0, 65535));
        if (!surface.has(x, y)) {
            throw new IndexOutOfBoundsException();
        }
        int[][] pixels = twin(surface.draft.pixels);
        pixels[y][x] = color;
        repaint(surface, pixels);
    }

    int fill(int s, int x, int y, int columns, int rows, int color) {
        Surface surface = drafted(s);
        must(in(color, 0, 65535));
        mustBeArea(x, y, columns, rows);
        int[][] pixels = twin(surface.draft.pixels);
        int many = 0;
        for (int j = y; j < y + rows; j++) {
            for (int i = x; i < x + columns; i++) {
                if (surface.has(i, j)) {
                    pixels[j][i] = color;
                    many++;
                }
            }
        }
        repaint(surface, pixels);
        return many;
    }

    int copy(int from, int to, int x, int y, int columns, int rows, int tx, int ty) {
        Surface source = drafted(from);
        Surface target = drafted(to);
        must(source.client == target.client && in(tx, -20, 30) && in(ty, -20, 30));
        mustBeArea(x, y, columns, rows);
        int[][] old = source.draft.pixels;
        int[][] pixels = twin(target.draft.pixels);
        int many = 0;
        for (int j = 0; j < rows; j++) {
            for (int i = 0; i < columns; i++) {
                if (source.has(x + i, y + j) && target.has(tx + i, ty + j)) {
                    pixels[ty + j][tx + i] = old[y + j][x + i];
                    many++;
                }
            }
        }
        repaint(target, pixels);
        return many;
    }

    int commit(int client) {
        must(in(client, 0, 3));
        if (commits - takenCommit == 6) {
            throw new IllegalStateException();
        }
        for (Surface surface : surfaces.values()) {
            if (surface.client == client) {
                surface.committed = surface.draft;
                surface.leaves = surface.draft == null;
            }
        }
        committers.add(client);
        commits++;
        return commits;
    }

    private Map<Integer, Picture> committed() {
        Map<Integer, Picture> all = new TreeMap<>();
        surfaces.forEach((number, surface) -> {
            if (surface.committed != null) {
                all.put(number, surface.committed);
            }
        });
        return all;
    }

    private static List<Integer> upward(Map<Integer, Picture> pictures) {
        List<Integer> numbers = new ArrayList<>(pictures.keySet());
        numbers.sort(Comparator.comparingInt((Integer s) -> pictures.get(s).order).thenComparingInt(s -> s));
        return numbers;
    }

    private void begin() {
        Map<Integer, Picture> before = taken;
        List<Integer> planesBefore = chosen;
        taken = committed();
        takenCommit = commits;
        choosePlanes();
        for (int s = 0; s < 10; s++) {
            boolean was = planesBefore.contains(s);
            boolean is = chosen.contains(s);
            boolean committer = surfaces.containsKey(s) && committers.contains(surfaces.get(s).client);
            if (committer || was != is) {
                miss(was ? null : before.get(s));
                miss(is ? null : taken.get(s));
            }
        }
        committers.clear();
        surfaces.values().removeIf(surface -> surface.leaves);
        queueSteps();
        state = 1;
        readyIfDone();
    }

    private void choosePlanes() {
        chosen = new ArrayList<>();
        chosenPictures = new ArrayList<>();
        List<Integer> numbers = upward(taken);
        List<Box> above = new ArrayList<>();
        for (int i = numbers.size() - 1; i >= 0; i--) {
            Picture picture = taken.get(numbers.get(i));
            Box shown = picture.shown();
            int pixels = shown.pixels().size();
            boolean fits = picture.alpha == 16 && pixels > 0 && pixels <= 24 && above.stream().noneMatch(shown::meets);
            if (fits && chosen.size() < 2) {
                chosen.add(numbers.get(i));
                chosenPictures.add(picture);
            }
            above.add(shown);
        }
    }

    private void miss(Picture picture) {
        if (picture == null || picture.shown().pixels().isEmpty()) {
            return;
        }
        for (Memory memory : List.of(front, back)) {
            Box hole = picture.shown();
            if (memory.misses.stream().noneMatch(box -> box.pixels().containsAll(hole.pixels()))) {
                memory.misses.add(hole);
                if (memory.misses.size() == 7) {
                    join(memory.misses);
                }
            }
        }
    }

    private static void join(List<Box> misses) {
        int[] best = null;
        for (int i = 0; i < 7; i++) {
            for (int j = i + 1; j < 7; j++) {
                Box one = misses.get(i);
                Box other = misses.get(j);
                int cost = one.hull(other).pixels().size() - one.pixels().size() - other.pixels().size();
                if (best == null || cost < best[0]) {
                    best = new int[] {cost, i, j};
                }
            }
        }
        misses.set(best[1], misses.get(best[1]).hull(misses.get(best[2])));
        misses.remove(best[2]);
    }

    private void queueSteps() {
        Memory memory = back;
        for (Box hole : memory.misses) {
            steps.add(() -> paint(memory, hole, hole, null));
            for (int s : upward(taken)) {
                Picture picture = taken.get(s);
                if (!chosen.contains(s) && picture.shown().meets(hole)) {
                    steps.add(() -> paint(memory, hole, picture.shown(), picture));
                }
            }
        }
    }

    private static void paint(Memory memory, Box hole, Box shown, Picture picture) {
        for (int y = 0; y < 10; y++) {
            for (int x = 0; x < 20; x++) {
                if (hole.has(x, y) && shown.has(x, y)) {
                    memory.pixels[y][x] = picture == null ? 0 : picture.over(memory.pixels[y][x], x, y);
                }
            }
        }
    }

    private void readyIfDone() {
        if (state == 1 && steps.isEmpty()) {
            back.misses = new ArrayList<>();
            state = 2;
        }
    }

    int draw(int n) {
        must(in(n, 0, 200));
        if (n != 0 && state == 0 && commits > takenCommit) {
            begin();
        }
        int made = 0;
        while (made < n && !steps.isEmpty()) {
            steps.remove().run();
            made++;
        }
        readyIfDone();
        return made;
    }

    int scan() {
        if (row < 10) {
            for (int x = 0; x < 20; x++) {
                scanned[row][x] = front.pixels[row][x];
                for (Picture picture : setPictures) {
                    if (picture.shown().has(x, row)) {
                        scanned[row][x] = picture.pixels[row - picture.y][x - picture.x];
                    }
                }
            }
            row++;
            return row - 1;
        }
        row = 0;
        seen = scanned;
        scanned = new int[10][20];
        seenCommit = frontCommit;
        frames++;
        if (state == 2) {
            Memory old = front;
            front = back;
            back = old;
            setPictures = chosenPictures;
            frontCommit = takenCommit;
            state = 0;
        }
        return -1;
    }

    int state() {
        return state;
    }

    int seen(int x, int y) {
        return in(x, 0, 19) && in(y, 0, 9) ? seen[y][x] : -1;
    }

    int wanted(int x, int y) {
        if (!in(x, 0, 19) || !in(y, 0, 9)) {
            return -1;
        }
        Map<Integer, Picture> pictures = committed();
        int color = 0;
        for (int s : upward(pictures)) {
            if (pictures.get(s).shown().has(x, y)) {
                color = pictures.get(s).over(color, x, y);
            }
        }
        return color;
    }

    int count(int what) {
        return what == 0 ? frames : what == 1 ? seenCommit : what == 2 ? takenCommit : -1;
    }

    int missed(int i, int what) {
        if (!in(i, 0, back.misses.size() - 1) || !in(what, 0, 3)) {
            return -1;
        }
        Box box = back.misses.get(i);
        return new int[] {box.x, box.y, box.columns, box.rows}[what];
    }

    int plane(int i) {
        return in(i, 0, chosen.size() - 1) ? chosen.get(i) : -1;
    }

    int free() {
        return 300 - surfaces.values().stream().mapToInt(surface -> surface.columns * surface.rows).sum();
    }
}

import java.util.Arrays;

public final class FrameSwapper {
    public static final int NONE = -1;

    private static final int SCREEN_COLUMNS = 20;
    private static final int SCREEN_ROWS = 10;
    private static final int LAST_COLOR = 65535;
    private static final int CLIENTS = 4;
    private static final int SURFACES = 10;
    private static final int MOST_COLUMNS = 12;
    private static final int MOST_ROWS = 8;
    private static final int ALL_PIXELS = 300;
    private static final int LAST_ORDER = 9;
    private static final int FULL_ALPHA = 16;
    private static final int LEAST_PLACE = -20;
    private static final int MOST_PLACE = 30;
    private static final int MOST_SPAN = 30;
    private static final int MOST_WAITING = 6;
    private static final int MOST_STEPS = 200;
    private static final int MOST_MISSED = 6;
    private static final int PLANES = 2;
    private static final int PLANE_PIXELS = 24;
    private static final int RESTS = 0;
    private static final int COMPOSES = 1;
    private static final int READY = 2;

    private final Desk desk;
    private final Composer composer;
    private final Beam beam;
    // Scratch of single calls, made once because what calls make is never given back.
    private final Rectangle area;
    private final Picture carried;

    public FrameSwapper() {
        desk = new Desk();
        composer = new Composer();
        beam = new Beam();
        area = new Rectangle();
        carried = new Picture();
    }

    public int surface(int client, int columns, int rows) throws IllegalArgumentException, IllegalStateException {
        demand(isClient(client) && isWithin(columns, 1, MOST_COLUMNS) && isWithin(rows, 1, MOST_ROWS));
        int number = desk.lowestFreeNumber();
        if (number == NONE || columns * rows > desk.freePixels) {
            throw new IllegalStateException();
        }
        desk.open(number, client, columns, rows);
        return number;
    }

    public void destroy(int s) throws IllegalArgumentException {
        demand(desk.hasDraft(s));
        desk.drafts[s].remove();
    }

    public void place(int s, int x, int y, int order, int alpha, boolean visible) throws IllegalArgumentException {
        demand(desk.hasDraft(s) && isPlace(x) && isPlace(y));
        demand(isWithin(order, 0, LAST_ORDER) && isWithin(alpha, 0, FULL_ALPHA));
        Picture draft = desk.drafts[s];
        draft.x = x;
        draft.y = y;
        draft.order = order;
        draft.alpha = alpha;
        draft.visible = visible;
        draft.findShown();
    }

    public void clip(int s, int x, int y, int columns, int rows) throws IllegalArgumentException {
        demand(desk.hasDraft(s) && isArea(x, y, columns, rows));
        Picture draft = desk.drafts[s];
        draft.clip.set(x, y, columns, rows);
        draft.clip.cut(draft.columns, draft.rows);
        draft.findShown();
    }

    public void put(int s, int x, int y, int color) throws IllegalArgumentException, IndexOutOfBoundsException {
        demand(desk.hasDraft(s) && isColor(color));
        Picture draft = desk.drafts[s];
        if (!isWithin(x, 0, draft.columns - 1) || !isWithin(y, 0, draft.rows - 1)) {
            throw new IndexOutOfBoundsException();
        }
        draft.pixels[y * draft.columns + x] = color;
    }

    public int fill(int s, int x, int y, int columns, int rows, int color) throws IllegalArgumentException {
        demand(desk.hasDraft(s) && isColor(color) && isArea(x, y, columns, rows));
        Picture draft = desk.drafts[s];
        area.set(x, y, columns, rows);
        area.cut(draft.columns, draft.rows);
        draft.paintOver(area, color);
        return area.pixels();
    }

    public int copy(int from, int to, int x, int y, int columns, int rows, int tx, int ty) throws IllegalArgumentException {
        demand(desk.hasDraft(from) && desk.hasDraft(to));
        demand(desk.clients[from] == desk.clients[to]);
        demand(isArea(x, y, columns, rows) && isPlace(tx) && isPlace(ty));
        Picture source = desk.drafts[from];
        Picture target = desk.drafts[to];
        area.set(x, y, columns, rows);
        area.cut(source.columns, source.rows);
        area.shift(tx - x, ty - y);
        area.cut(target.columns, target.rows);
        // Both may be the same draft: what is put comes from how the source was before.
        carried.become(source);
        carried.x = tx - x;
        carried.y = ty - y;
        target.layDown(area, carried);
        return area.pixels();
    }

    public int commit(int client) throws IllegalArgumentException, IllegalStateException {
        demand(isClient(client));
        if (desk.commits - composer.takenCommit >= MOST_WAITING) {
            throw new IllegalStateException();
        }
        desk.commitAll(client);
        return desk.commits;
    }

    public int draw(int n) throws IllegalArgumentException {
        demand(isWithin(n, 0, MOST_STEPS));
        if (n != 0 && composer.state == RESTS && composer.takenCommit < desk.commits) {
            composer.begin(desk);
        }
        return composer.makeSteps(n);
    }

    public int scan() {
        if (beam.row < SCREEN_ROWS) {
            return beam.scanRow(composer.front);
        }
        beam.endFrame(composer.frontCommit);
        if (composer.state == READY) {
            composer.swap();
            beam.planes.become(composer.chosen);
        }
        return NONE;
    }

    public int state() {
        return composer.state;
    }

    public int seen(int x, int y) {
        return isOnScreen(x, y) ? beam.seen[y * SCREEN_COLUMNS + x] : NONE;
    }

    public int wanted(int x, int y) {
        return isOnScreen(x, y) ? desk.committed.colorAt(x, y) : NONE;
    }

    public int count(int what) {
        switch (what) {
            case 0:
                return beam.frames;
            case 1:
                return beam.seenCommit;
            case 2:
                return composer.takenCommit;
            default:
                return NONE;
        }
    }

    public int missed(int i, int what) {
        Misses misses = composer.back.misses;
        if (i < 0 || i >= misses.size) {
            return NONE;
        }
        Rectangle hole = misses.list[i];
        switch (what) {
            case 0:
                return hole.x;
            case 1:
                return hole.y;
            case 2:
                return hole.columns;
            case 3:
                return hole.rows;
            default:
                return NONE;
        }
    }

    public int plane(int i) {
        return isWithin(i, 0, PLANES - 1) ? composer.chosen.numbers[i] : NONE;
    }

    public int free() {
        return desk.freePixels;
    }

    private static void demand(boolean holds) throws IllegalArgumentException {
        if (!holds) {
            throw new IllegalArgumentException();
        }
    }

    private static boolean isWithin(int value, int least, int most) {
        return value >= least && value <= most;
    }

    private static boolean isClient(int client) {
        return isWithin(client, 0, CLIENTS - 1);
    }

    private static boolean isColor(int color) {
        return isWithin(color, 0, LAST_COLOR);
    }

    private static boolean isPlace(int value) {
        return isWithin(value, LEAST_PLACE, MOST_PLACE);
    }

    private static boolean isArea(int x, int y, int columns, int rows) {
        return isPlace(x) && isPlace(y) && isWithin(columns, 0, MOST_SPAN) && isWithin(rows, 0, MOST_SPAN);
    }

    private static boolean isOnScreen(int x, int y) {
        return isWithin(x, 0, SCREEN_COLUMNS - 1) && isWithin(y, 0, SCREEN_ROWS - 1);
    }

    private static int mix(int own, int below, int alpha) {
        int red = mixPart(own >> 11, below >> 11, alpha);
        int green = mixPart(own >> 5 & 63, below >> 5 & 63, alpha);
        int blue = mixPart(own & 31, below & 31, alpha);
        return red << 11 | green << 5 | blue;
    }

    private static int mixPart(int own, int below, int alpha) {
        return (alpha * own + (FULL_ALPHA - alpha) * below) / FULL_ALPHA;
    }

    private static final class Rectangle {
        int x;
        int y;
        int columns;
        int rows;

        void set(int newX, int newY, int newColumns, int newRows) {
            x = newX;
            y = newY;
            columns = newColumns;
            rows = newRows;
        }

        void become(Rectangle other) {
            set(other.x, other.y, other.columns, other.rows);
        }

        void shift(int right, int down) {
            x += right;
            y += down;
        }

        /** Keeps what lies in columns 0 .. width - 1 and rows 0 .. height - 1. */
        void cut(int width, int height) {
            int right = Math.min(x + columns, width);
            int bottom = Math.min(y + rows, height);
            x = Math.max(x, 0);
            y = Math.max(y, 0);
            columns = Math.max(right - x, 0);
            rows = Math.max(bottom - y, 0);
        }

        boolean isEmpty() {
            return columns == 0 || rows == 0;
        }

        int pixels() {
            return columns * rows;
        }

        boolean has(int column, int row) {
            return column >= x && column < x + columns && row >= y && row < y + rows;
        }

        boolean meets(Rectangle other) {
            return Math.max(x, other.x) < Math.min(x + columns, other.x + other.columns)
                && Math.max(y, other.y) < Math.min(y + rows, other.y + other.rows);
        }

        boolean contains(Rectangle other) {
            return other.x >= x && other.x + other.columns <= x + columns
                && other.y >= y && other.y + other.rows <= y + rows;
        }

        /** What joining would add to redraw: the pixels of the hull less those of both. */
        int wasteWith(Rectangle other) {
            int width = Math.max(x + columns, other.x + other.columns) - Math.min(x, other.x);
            int height = Math.max(y + rows, other.y + other.rows) - Math.min(y, other.y);
            return width * height - columns * rows - other.columns * other.rows;
        }

        void growOver(Rectangle other) {
            int right = Math.max(x + columns, other.x + other.columns);
            int bottom = Math.max(y + rows, other.y + other.rows);
            x = Math.min(x, other.x);
            y = Math.min(y, other.y);
            columns = right - x;
            rows = bottom - y;
        }
    }

    private static final class Picture {
        boolean isThere;
        int columns;
        int rows;
        int x;
        int y;
        int order;
        int alpha;
        boolean visible;
        final int[] pixels = new int[MOST_COLUMNS * MOST_ROWS];
        final Rectangle clip = new Rectangle();
        final Rectangle shown = new Rectangle();

        void start(int newColumns, int newRows) {
            isThere = true;
            columns = newColumns;
            rows = newRows;
            x = 0;
            y = 0;
            order = 0;
            alpha = FULL_ALPHA;
            visible = false;
            Arrays.fill(pixels, 0);
            clip.set(0, 0, columns, rows);
            findShown();
        }

        void remove() {
            isThere = false;
            findShown();
        }

        void become(Picture other) {
            isThere = other.isThere;
            columns = other.columns;
            rows = other.rows;
            x = other.x;
            y = other.y;
            order = other.order;
            alpha = other.alpha;
            visible = other.visible;
            System.arraycopy(other.pixels, 0, pixels, 0, pixels.length);
            clip.become(other.clip);
            shown.become(other.shown);
        }

        void findShown() {
            if (!isThere || !visible) {
                shown.set(0, 0, 0, 0);
                return;
            }
            shown.become(clip);
            shown.shift(x, y);
            shown.cut(SCREEN_COLUMNS, SCREEN_ROWS);
        }

        /** Its color at a pixel of what it is placed on; the caller knows that it has one there. */
        int colorAt(int column, int row) {
            return pixels[(row - y) * columns + column - x];
        }

        void paintOver(Rectangle part, int color) {
            for (int row = part.y; row < part.y + part.rows; row++) {
                for (int column = part.x; column < part.x + part.columns; column++) {
                    pixels[row * columns + column] = color;
                }
            }
        }

        /** Takes the colors of a part from a picture that is placed upon this one. */
        void layDown(Rectangle part, Picture upon) {
            for (int row = part.y; row < part.y + part.rows; row++) {
                for (int column = part.x; column < part.x + part.columns; column++) {
                    pixels[row * columns + column] = upon.colorAt(column, row);
                }
            }
        }
    }

    /** The pictures of all surfaces by their numbers, and which are there, from the lowest to the one above all. */
    private static final class Pile {
        final Picture[] pictures = new Picture[SURFACES];
        final int[] upward = new int[SURFACES];
        int height;

        Pile() {
            for (int s = 0; s < SURFACES; s++) {
                pictures[s] = new Picture();
            }
        }

        void sort() {
            height = 0;
            for (int order = 0; order <= LAST_ORDER; order++) {
                for (int s = 0; s < SURFACES; s++) {
                    if (pictures[s].isThere && pictures[s].order == order) {
                        upward[height] = s;
                        height++;
                    }
                }
            }
        }

        void become(Pile other) {
            for (int s = 0; s < SURFACES; s++) {
                pictures[s].become(other.pictures[s]);
            }
            sort();
        }

        int colorAt(int column, int row) {
            int color = 0;
            for (int level = 0; level < height; level++) {
                Picture picture = pictures[upward[level]];
                if (picture.shown.has(column, row)) {
                    color = mix(picture.colorAt(column, row), color, picture.alpha);
                }
            }
            return color;
        }
    }

    /** What clients work on and have committed. */
    private static final class Desk {
        final Picture[] drafts = new Picture[SURFACES];
        final Pile committed = new Pile();
        // NONE where the number is free.
        final int[] clients = new int[SURFACES];
        // Destroyed, and its client has committed since: free once that is taken.
        final boolean[] leaving = new boolean[SURFACES];
        // Clients with commits that the composer hasn't taken.
        final boolean[] waiting = new boolean[CLIENTS];
        int commits;
        int freePixels = ALL_PIXELS;

        Desk() {
            for (int s = 0; s < SURFACES; s++) {
                drafts[s] = new Picture();
                clients[s] = NONE;
            }
        }

        boolean hasDraft(int s) {
            return s >= 0 && s < SURFACES && drafts[s].isThere;
        }

        int lowestFreeNumber() {
            for (int s = 0; s < SURFACES; s++) {
                if (clients[s] == NONE) {
                    return s;
                }
            }
            return NONE;
        }

        void open(int s, int client, int columns, int rows) {
            clients[s] = client;
            drafts[s].start(columns, rows);
            freePixels -= columns * rows;
        }

        void commitAll(int client) {
            for (int s = 0; s < SURFACES; s++) {
                if (clients[s] == client) {
                    committed.pictures[s].become(drafts[s]);
                    leaving[s] = !drafts[s].isThere;
                }
            }
            committed.sort();
            waiting[client] = true;
            commits++;
        }

        boolean isWaiting(int s) {
            return clients[s] != NONE && waiting[clients[s]];
        }

        void allTaken() {
            for (int s = 0; s < SURFACES; s++) {
                if (leaving[s]) {
                    leaving[s] = false;
                    clients[s] = NONE;
                    freePixels += drafts[s].columns * drafts[s].rows;
                }
            }
            for (int client = 0; client < CLIENTS; client++) {
                waiting[client] = false;
            }
        }
    }

    /** The rectangles that a memory misses. */
    private static final class Misses {
        // One more than may stay, for the one that makes two of them join.
        final Rectangle[] list = new Rectangle[MOST_MISSED + 1];
        int size;

        Misses() {
            for (int i = 0; i <= MOST_MISSED; i++) {
                list[i] = new Rectangle();
            }
        }

        void add(Rectangle hole) {
            if (hole.isEmpty() || isCovered(hole)) {
                return;
            }
            list[size].become(hole);
            size++;
            if (size > MOST_MISSED) {
                joinNearest();
            }
        }

        private boolean isCovered(Rectangle hole) {
            for (int i = 0; i < size; i++) {
                if (list[i].contains(hole)) {
                    return true;
                }
            }
            return false;
        }

        private void joinNearest() {
            int first = 0;
            int second = 1;
            int least = list[0].wasteWith(list[1]);
            for (int i = 0; i < size; i++) {
                for (int j = i + 1; j < size; j++) {
                    int waste = list[i].wasteWith(list[j]);
                    if (waste < least) {
                        least = waste;
                        first = i;
                        second = j;
                    }
                }
            }
            list[first].growOver(list[second]);
            dropAt(second);
        }

        private void dropAt(int place) {
            size--;
            for (int i = place; i < size; i++) {
                list[i].become(list[i + 1]);
            }
        }
    }

    private static final class Memory {
        final int[] pixels = new int[SCREEN_COLUMNS * SCREEN_ROWS];
        final Misses misses = new Misses();

        void blacken(Rectangle hole) {
            for (int row = hole.y; row < hole.y + hole.rows; row++) {
                for (int column = hole.x; column < hole.x + hole.columns; column++) {
                    pixels[row * SCREEN_COLUMNS + column] = 0;
                }
            }
        }

        void paint(Picture picture, Rectangle hole) {
            for (int row = hole.y; row < hole.y + hole.rows; row++) {
                for (int column = hole.x; column < hole.x + hole.columns; column++) {
                    if (picture.shown.has(column, row)) {
                        int at = row * SCREEN_COLUMNS + column;
                        pixels[at] = mix(picture.colorAt(column, row), pixels[at], picture.alpha);
                    }
                }
            }
        }
    }

    /** Surfaces given to planes, with their pixels as they were then: what is taken later must not reach the scan. */
    private static final class Planes {
        final int[] numbers = {NONE, NONE};
        final Rectangle[] shown = {new Rectangle(), new Rectangle()};
        final int[][] colors = new int[PLANES][PLANE_PIXELS];

        boolean has(int s) {
            return numbers[0] == s || numbers[1] == s;
        }

        void become(Planes other) {
            for (int i = 0; i < PLANES; i++) {
                numbers[i] = other.numbers[i];
                shown[i].become(other.shown[i]);
                System.arraycopy(other.colors[i], 0, colors[i], 0, PLANE_PIXELS);
            }
        }

        void choose(Pile taken) {
            Arrays.fill(numbers, NONE);
            int given = 0;
            for (int level = taken.height - 1; level >= 0 && given < PLANES; level--) {
                if (isFit(taken, level)) {
                    give(given, taken.upward[level], taken.pictures[taken.upward[level]]);
                    given++;
                }
            }
        }

        private boolean isFit(Pile taken, int level) {
            Picture picture = taken.pictures[taken.upward[level]];
            if (picture.alpha != FULL_ALPHA || picture.shown.isEmpty() || picture.shown.pixels() > PLANE_PIXELS) {
                return false;
            }
            for (int above = level + 1; above < taken.height; above++) {
                if (picture.shown.meets(taken.pictures[taken.upward[above]].shown)) {
                    return false;
                }
            }
            return true;
        }

        private void give(int i, int s, Picture picture) {
            numbers[i] = s;
            Rectangle part = shown[i];
            part.become(picture.shown);
            int next = 0;
            for (int row = part.y; row < part.y + part.rows; row++) {
                for (int column = part.x; column < part.x + part.columns; column++) {
                    colors[i][next] = picture.colorAt(column, row);
                    next++;
                }
            }
        }

        void mixInto(int[] frame, int row) {
            for (int i = 0; i < PLANES; i++) {
                Rectangle part = shown[i];
                if (numbers[i] != NONE && row >= part.y && row < part.y + part.rows) {
                    int start = (row - part.y) * part.columns;
                    System.arraycopy(colors[i], start, frame, row * SCREEN_COLUMNS + part.x, part.columns);
                }
            }
        }
    }

    private static final class Composer {
        // The step of a rectangle that comes before those of the pile's levels.
        private static final int BLACKEN = -1;

        final Pile taken = new Pile();
        final Planes chosen = new Planes();
        final boolean[] wasInPlane = new boolean[SURFACES];
        final Rectangle[] shownBefore = new Rectangle[SURFACES];
        Memory front = new Memory();
        Memory back = new Memory();
        int state = RESTS;
        int takenCommit;
        int frontCommit;
        // The next step: which rectangle, and which level of the pile (or BLACKEN).
        int hole;
        int level;

        Composer() {
            for (int s = 0; s < SURFACES; s++) {
                shownBefore[s] = new Rectangle();
            }
        }

        void begin(Desk desk) {
            rememberBefore();
            taken.become(desk.committed);
            takenCommit = desk.commits;
            chosen.choose(taken);
            noteChanges(desk);
            desk.allTaken();
            state = COMPOSES;
            startHole(0);
        }

        private void rememberBefore() {
            for (int s = 0; s < SURFACES; s++) {
                wasInPlane[s] = chosen.has(s);
                shownBefore[s].become(taken.pictures[s].shown);
            }
        }

        private void noteChanges(Desk desk) {
            for (int s = 0; s < SURFACES; s++) {
                boolean isInPlane = chosen.has(s);
                boolean changed = desk.isWaiting(s) || isInPlane != wasInPlane[s];
                if (changed && !wasInPlane[s]) {
                    front.misses.add(shownBefore[s]);
                    back.misses.add(shownBefore[s]);
                }
                if (changed && !isInPlane) {
                    front.misses.add(taken.pictures[s].shown);
                    back.misses.add(taken.pictures[s].shown);
                }
            }
        }

        private void startHole(int next) {
            hole = next;
            level = BLACKEN;
            if (hole >= back.misses.size) {
                back.misses.size = 0;
                state = READY;
            }
        }

        int makeSteps(int n) {
            int made = 0;
            while (made < n && state == COMPOSES) {
                makeStep();
                made++;
            }
            return made;
        }

        private void makeStep() {
            Rectangle part = back.misses.list[hole];
            if (level == BLACKEN) {
                back.blacken(part);
            } else {
                back.paint(taken.pictures[taken.upward[level]], part);
            }
            level = nextLevel(part);
            if (level == taken.height) {
                startHole(hole + 1);
            }
        }

        private int nextLevel(Rectangle part) {
            for (int next = level + 1; next < taken.height; next++) {
                int s = taken.upward[next];
                if (!chosen.has(s) && taken.pictures[s].shown.meets(part)) {
                    return next;
                }
            }
            return taken.height;
        }

        void swap() {
            Memory scanned = front;
            front = back;
            back = scanned;
            frontCommit = takenCommit;
            state = RESTS;
        }
    }

    /** What scans the front memory and the planes that are set. */
    private static final class Beam {
        final Planes planes = new Planes();
        final int[] scanned = new int[SCREEN_COLUMNS * SCREEN_ROWS];
        final int[] seen = new int[SCREEN_COLUMNS * SCREEN_ROWS];
        int row;
        int frames;
        int seenCommit;

        int scanRow(Memory front) {
            int start = row * SCREEN_COLUMNS;
            System.arraycopy(front.pixels, start, scanned, start, SCREEN_COLUMNS);
            planes.mixInto(scanned, row);
            row++;
            return row - 1;
        }

        void endFrame(int commit) {
            System.arraycopy(scanned, 0, seen, 0, seen.length);
            seenCommit = commit;
            frames++;
            row = 0;
        }
    }
}

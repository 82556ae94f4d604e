import java.util.Arrays;

/** What goes round and begins again, and what must not run over into its neighbour. */
public final class WrapTest {
    public static void main(String[] args) {
        rowZeroComesBehindTheGap();
        commitsAndDrawingDoNotMoveTheScan();
        memoriesChangePlacesAgainAndAgain();
        numbersComeAgain();
        commitNumbersDoNot();
        nothingRunsOverTheScreensEdges();
        planesDoNotRunOverTheScreensEdges();
        putDoesNotRunIntoTheNextRow();
        fillDoesNotRunIntoTheNextRow();
        copyDoesNotRunIntoTheNextRow();
        copyWithinOneGoesAllWays();
        partsOfAColorStayApart();
        whatIsBehindThePointGoes();
        leastAndGreatestAlpha();
        orderThenNumber();
        Checks.end();
    }

    private static void rowZeroComesBehindTheGap() {
        FrameSwapper screen = new FrameSwapper();
        for (int frame = 0; frame < 5; frame++) {
            for (int row = 0; row < 10; row++) {
                Checks.same("scan", screen.scan(), row);
            }
            Checks.same("frames before the gap", screen.count(0), frame);
            Checks.same("the gap", screen.scan(), FrameSwapper.NONE);
            Checks.same("frames", screen.count(0), frame + 1);
        }
        Checks.same("scan", screen.scan(), 0);
    }

    private static void commitsAndDrawingDoNotMoveTheScan() {
        FrameSwapper screen = withOne(16, 0, 0);
        for (int row = 0; row < 10; row++) {
            Checks.same("scan", screen.scan(), row);
            screen.draw(1);
            if (row < 4) {
                screen.commit(0);
            }
        }
        screen.draw(200);
        Checks.same("the gap", screen.scan(), -1);
        screen.draw(200);
        Checks.same("scan", screen.scan(), 0);
    }

    /** A surface of 6 by 5 at a place, committed; pixel i of it is 100 + i. */
    private static FrameSwapper withOne(int alpha, int x, int y) {
        FrameSwapper screen = new FrameSwapper();
        screen.surface(0, 6, 5);
        for (int i = 0; i < 30; i++) {
            screen.put(0, i % 6, i / 6, 100 + i);
        }
        screen.place(0, x, y, 0, alpha, true);
        screen.commit(0);
        return screen;
    }

    private static void memoriesChangePlacesAgainAndAgain() {
        FrameSwapper screen = new FrameSwapper();
        Checks.patch(screen, 0, 6, 5, 1);
        screen.place(0, 0, 0, 0, 16, true);
        for (int turn = 1; turn <= 6; turn++) {
            screen.fill(0, 0, 0, 6, 5, turn);
            screen.commit(0);
            Checks.same("steps", screen.draw(200), 2);
            Checks.frame(screen);
            Checks.same("seen is of the turn before", screen.seen(5, 4), turn - 1);
            Checks.sameMissed(screen, 0, 0, 0, 6, 5);
            Checks.noMissed(screen, 1);
        }
        Checks.frame(screen);
        Checks.same("seen", screen.seen(5, 4), 6);
    }

    private static void numbersComeAgain() {
        FrameSwapper screen = new FrameSwapper();
        for (int s = 0; s < 10; s++) {
            screen.surface(s % 2, 1, 1);
        }
        for (int turn = 0; turn < 4; turn++) {
            for (int s = turn % 2; s < 10; s += 2) {
                screen.destroy(s);
            }
            screen.commit(turn % 2);
            screen.draw(1);
            for (int s = turn % 2; s < 10; s += 2) {
                Checks.same("the lowest free number", screen.surface(turn % 2, 1, 1), s);
            }
            Checks.frame(screen);
        }
        Checks.same("free", screen.free(), 290);
    }

    private static void commitNumbersDoNot() {
        FrameSwapper screen = new FrameSwapper();
        for (int turn = 0; turn < 10; turn++) {
            for (int i = 1; i <= 6; i++) {
                Checks.same("commit", screen.commit(3), 6 * turn + i);
            }
            screen.draw(1);
            Checks.frame(screen);
        }
        Checks.same("count(2)", screen.count(2), 60);
        Checks.same("count(1)", screen.count(1), 54);
    }

    private static int dueAt(int column, int row, int x, int y) {
        boolean has = column >= x && column < x + 6 && row >= y && row < y + 5;
        return has ? 100 + (row - y) * 6 + column - x : 0;
    }

    private static void nothingRunsOverTheScreensEdges() {
        int[][] places = {{17, 3}, {-3, 3}, {7, 8}, {7, -3}, {17, 8}, {-3, -3}, {14, 5}, {15, 6}, {-5, -4}, {19, 9}};
        for (int[] p : places) {
            FrameSwapper wanted = withOne(16, p[0], p[1]);
            FrameSwapper seen = withOne(16, p[0], p[1]);
            Checks.show(seen);
            for (int i = 0; i < 200; i++) {
                int due = dueAt(i % 20, i / 20, p[0], p[1]);
                Checks.same("wanted, pixel " + i + " at " + Arrays.toString(p), wanted.wanted(i % 20, i / 20), due);
                Checks.same("seen, pixel " + i + " at " + Arrays.toString(p), seen.seen(i % 20, i / 20), due);
            }
            Checks.same("wanted left of the screen", wanted.wanted(-1, 3), FrameSwapper.NONE);
            Checks.same("seen right of the screen", seen.seen(20, 3), FrameSwapper.NONE);
        }
    }

    private static void planesDoNotRunOverTheScreensEdges() {
        int[][] places = {{17, 3}, {-3, 3}, {7, 8}, {7, -3}, {17, 8}, {-3, -3}, {19, 9}, {-5, -4}, {16, 9}};
        for (int[] p : places) {
            FrameSwapper screen = withOne(16, p[0], p[1]);
            screen.draw(200);
            Checks.same("plane(0)", screen.plane(0), 0);
            Checks.frame(screen);
            Checks.frame(screen);
            for (int i = 0; i < 200; i++) {
                int due = dueAt(i % 20, i / 20, p[0], p[1]);
                Checks.same("seen, pixel " + i + " at " + Arrays.toString(p), screen.seen(i % 20, i / 20), due);
            }
        }
    }

    private static void samePixels(FrameSwapper screen, int... due) {
        screen.commit(0);
        for (int i = 0; i < due.length; i++) {
            Checks.same("pixel " + i, screen.wanted(i % 3, i / 3), due[i]);
        }
    }

    /** A surface of 3 by 3 at 0, 0; pixel i of it is i + 1. */
    private static FrameSwapper withNine() {
        FrameSwapper screen = new FrameSwapper();
        screen.surface(0, 3, 3);
        for (int i = 0; i < 9; i++) {
            screen.put(0, i % 3, i / 3, i + 1);
        }
        screen.place(0, 0, 0, 0, 16, true);
        return screen;
    }

    private static void putDoesNotRunIntoTheNextRow() {
        FrameSwapper screen = withNine();
        int[][] outside = {{3, 0}, {-1, 1}, {4, 0}, {3, 2}, {-1, 0}, {0, 3}, {6, -1}, {-3, 1}, {11, 0}};
        for (int[] o : outside) {
            Checks.refused("put at " + Arrays.toString(o), Checks.INDEX, () -> screen.put(0, o[0], o[1], 99));
        }
        samePixels(screen, 1, 2, 3, 4, 5, 6, 7, 8, 9);
        screen.put(0, 2, 0, 50);
        screen.put(0, 0, 2, 60);
        samePixels(screen, 1, 2, 50, 4, 5, 6, 60, 8, 9);
    }

    private static void fillDoesNotRunIntoTheNextRow() {
        FrameSwapper right = withNine();
        Checks.same("fill over the right edge", right.fill(0, 2, 0, 30, 2, 99), 2);
        samePixels(right, 1, 2, 99, 4, 5, 99, 7, 8, 9);
        FrameSwapper left = withNine();
        Checks.same("fill over the left edge", left.fill(0, -20, 1, 21, 1, 99), 1);
        samePixels(left, 1, 2, 3, 99, 5, 6, 7, 8, 9);
        FrameSwapper lower = withNine();
        Checks.same("fill over the lower edge", lower.fill(0, 1, 2, 1, 30, 99), 1);
        samePixels(lower, 1, 2, 3, 4, 5, 6, 7, 99, 9);
        FrameSwapper upper = withNine();
        Checks.same("fill over the upper edge", upper.fill(0, 1, -20, 1, 21, 99), 1);
        samePixels(upper, 1, 99, 3, 4, 5, 6, 7, 8, 9);
    }

    private static void copyDoesNotRunIntoTheNextRow() {
        FrameSwapper right = withNine();
        Checks.same("copy over the right edge", right.copy(0, 0, 0, 0, 3, 1, 2, 1), 1);
        samePixels(right, 1, 2, 3, 4, 5, 1, 7, 8, 9);
        FrameSwapper left = withNine();
        Checks.same("copy over the left edge", left.copy(0, 0, 0, 0, 3, 1, -2, 1), 1);
        samePixels(left, 1, 2, 3, 3, 5, 6, 7, 8, 9);
        FrameSwapper lower = withNine();
        Checks.same("copy over the lower edge", lower.copy(0, 0, 0, 0, 1, 3, 1, 2), 1);
        samePixels(lower, 1, 2, 3, 4, 5, 6, 7, 1, 9);
        FrameSwapper upper = withNine();
        Checks.same("copy over the upper edge", upper.copy(0, 0, 0, 0, 1, 3, 1, -2), 1);
        samePixels(upper, 1, 7, 3, 4, 5, 6, 7, 8, 9);
        FrameSwapper source = withNine();
        Checks.same("copy from over the right edge", source.copy(0, 0, 2, 0, 3, 1, 0, 1), 1);
        samePixels(source, 1, 2, 3, 3, 5, 6, 7, 8, 9);
        FrameSwapper before = withNine();
        Checks.same("copy from over the left edge", before.copy(0, 0, -2, 0, 3, 1, 0, 1), 1);
        samePixels(before, 1, 2, 3, 4, 5, 1, 7, 8, 9);
    }

    /** Eight ways by one pixel: what is put is as it was before any was put. */
    private static void copyWithinOneGoesAllWays() {
        for (int way = 0; way < 9; way++) {
            int right = way % 3 - 1;
            int down = way / 3 - 1;
            FrameSwapper screen = withNine();
            int due = (3 - Math.abs(right)) * (3 - Math.abs(down));
            Checks.same("copy by " + right + ", " + down, screen.copy(0, 0, 0, 0, 3, 3, right, down), due);
            int[] pixels = new int[9];
            for (int i = 0; i < 9; i++) {
                int x = i % 3 - right;
                int y = i / 3 - down;
                pixels[i] = x >= 0 && x < 3 && y >= 0 && y < 3 ? y * 3 + x + 1 : i + 1;
            }
            samePixels(screen, pixels);
        }
    }

    /** What is wanted, and seen from memory, where a color lies with an alpha above another one of alpha 16. */
    private static void sameMix(int above, int below, int alpha, int due) {
        FrameSwapper screen = new FrameSwapper();
        Checks.patch(screen, 0, 1, 1, below);
        Checks.patch(screen, 0, 1, 1, above);
        screen.place(0, 19, 9, 0, 16, true);
        screen.place(1, 19, 9, 0, alpha, true);
        screen.commit(0);
        Checks.same("wanted " + above + " above " + below + " by " + alpha, screen.wanted(19, 9), due);
        Checks.show(screen);
        Checks.same("seen " + above + " above " + below + " by " + alpha, screen.seen(19, 9), due);
    }

    private static void partsOfAColorStayApart() {
        int red = 31 << 11;
        int green = 63 << 5;
        int blue = 31;
        for (int alpha = 0; alpha <= 16; alpha++) {
            sameMix(65535, 65535, alpha, 65535);
            sameMix(0, 65535, alpha, (16 - alpha) * 31 / 16 << 11 | (16 - alpha) * 63 / 16 << 5 | (16 - alpha) * 31 / 16);
            sameMix(green, red | blue, alpha, (16 - alpha) * 31 / 16 << 11 | alpha * 63 / 16 << 5 | (16 - alpha) * 31 / 16);
            sameMix(red | blue, green, alpha, alpha * 31 / 16 << 11 | (16 - alpha) * 63 / 16 << 5 | alpha * 31 / 16);
        }
        sameMix(1 << 11, 0, 15, 0);
        sameMix(1 << 5, 0, 15, 0);
        sameMix(1, 0, 15, 0);
    }

    private static void whatIsBehindThePointGoes() {
        // (8 * 31 + 8 * 30) / 16 is 30.5; (15 * 1 + 1 * 0) / 16 is 0.9; (1 * 31 + 15 * 1) / 16 is 2.9.
        sameMix(31, 30, 8, 30);
        sameMix(1, 0, 15, 0);
        sameMix(31, 1, 1, 2);
        sameMix(1, 1, 7, 1);
    }

    private static void leastAndGreatestAlpha() {
        sameMix(12345, 54321, 0, 54321);
        sameMix(12345, 54321, 16, 12345);
        sameMix(0, 54321, 16, 0);
        sameMix(0, 54321, 0, 54321);
    }

    private static void orderThenNumber() {
        FrameSwapper screen = new FrameSwapper();
        for (int s = 0; s < 10; s++) {
            Checks.patch(screen, 0, 1, 1, s + 1);
            screen.place(s, 0, 0, 9 - s, 16, true);
        }
        screen.commit(0);
        Checks.same("the greatest order", screen.wanted(0, 0), 1);
        screen.place(0, 0, 0, 8, 16, true);
        screen.commit(0);
        Checks.same("the greater number of two with order 8", screen.wanted(0, 0), 2);
        for (int s = 0; s < 10; s++) {
            screen.place(s, 0, 0, 0, 16, true);
        }
        screen.commit(0);
        Checks.same("the greatest number", screen.wanted(0, 0), 10);
        screen.place(0, 0, 0, 1, 16, true);
        screen.commit(0);
        Checks.same("order comes before number", screen.wanted(0, 0), 1);
        screen.place(0, 0, 0, 9, 16, false);
        screen.commit(0);
        Checks.same("one that isn't visible", screen.wanted(0, 0), 10);
    }
}

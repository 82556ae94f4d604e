/** Promises 4 to 8: place, clip, put, fill, copy. */
public final class DraftTest {
    public static void main(String[] args) {
        placeSetsAll();
        placeEdges();
        clipIsCutToTheSurface();
        clipEdges();
        putSetsOnePixel();
        putRefuses();
        fillCountsWhatItHas();
        fillRefuses();
        copyMovesARectangle();
        copyReadsBeforeItPuts();
        copyIsCutByBoth();
        copyRefuses();
        draftsGoWithDestroy();
        refusedChangesNothing();
        Checks.end();
    }

    private static FrameSwapper withPatch() {
        FrameSwapper screen = new FrameSwapper();
        Checks.patch(screen, 0, 4, 3, 1000);
        return screen;
    }

    private static int wantedPixels(FrameSwapper screen) {
        int pixels = 0;
        for (int y = 0; y < 10; y++) {
            for (int x = 0; x < 20; x++) {
                pixels += screen.wanted(x, y) == 0 ? 0 : 1;
            }
        }
        return pixels;
    }

    private static void placeSetsAll() {
        FrameSwapper screen = withPatch();
        Checks.patch(screen, 0, 1, 1, 65535);
        screen.place(0, 5, 6, 3, 16, true);
        Checks.same("wanted before the commit", screen.wanted(5, 6), 0);
        screen.commit(0);
        Checks.same("wanted", screen.wanted(5, 6), 1000);
        Checks.same("wanted", screen.wanted(8, 8), 1000);
        Checks.same("left of it", screen.wanted(4, 6), 0);
        Checks.same("above it", screen.wanted(5, 5), 0);
        Checks.same("right of it", screen.wanted(9, 6), 0);
        Checks.same("below it", screen.wanted(5, 9), 0);
        screen.place(1, 5, 6, 2, 16, true);
        screen.commit(0);
        Checks.same("the greater order is above", screen.wanted(5, 6), 1000);
        screen.place(1, 5, 6, 3, 16, true);
        screen.commit(0);
        Checks.same("the greater number is above", screen.wanted(5, 6), 65535);
        screen.place(1, 5, 6, 3, 0, true);
        screen.commit(0);
        Checks.same("alpha 0", screen.wanted(5, 6), 1000);
        screen.place(0, 5, 6, 3, 16, false);
        screen.commit(0);
        Checks.same("not visible", screen.wanted(6, 6), 0);
    }

    private static void placeEdges() {
        FrameSwapper screen = withPatch();
        int[][] fine = {{-20, 0, 0, 16}, {30, 0, 0, 16}, {0, -20, 0, 16}, {0, 30, 0, 16}, {0, 0, 9, 16}, {0, 0, 0, 0}};
        for (int[] f : fine) {
            screen.place(0, f[0], f[1], f[2], f[3], true);
        }
        int[][] wrong = {{-21, 0, 0, 16}, {31, 0, 0, 16}, {0, -21, 0, 16}, {0, 31, 0, 16}, {0, 0, -1, 16},
            {0, 0, 10, 16}, {0, 0, 0, -1}, {0, 0, 0, 17}, {Integer.MIN_VALUE, 0, 0, 16}, {0, Integer.MAX_VALUE, 0, 16}};
        for (int[] w : wrong) {
            Checks.refused("place(0, " + w[0] + ", " + w[1] + ", " + w[2] + ", " + w[3] + ")", Checks.ARGUMENT,
                () -> screen.place(0, w[0], w[1], w[2], w[3], true));
        }
        Checks.refused("place(1, ..)", Checks.ARGUMENT, () -> screen.place(1, 0, 0, 0, 16, true));
        Checks.refused("place(-1, ..)", Checks.ARGUMENT, () -> screen.place(-1, 0, 0, 0, 16, true));
        Checks.refused("place(10, ..)", Checks.ARGUMENT, () -> screen.place(10, 0, 0, 0, 16, true));
        screen.place(0, -3, -2, 0, 16, true);
        screen.commit(0);
        Checks.same("its last pixel is on the screen", screen.wanted(0, 0), 1000);
        Checks.same("pixels on the screen", wantedPixels(screen), 1);
        screen.place(0, 19, 9, 0, 16, true);
        screen.commit(0);
        Checks.same("its first pixel is on the screen", screen.wanted(19, 9), 1000);
        Checks.same("pixels on the screen, without a second row or column", screen.wanted(0, 9), 0);
    }

    private static void clipIsCutToTheSurface() {
        FrameSwapper screen = withPatch();
        screen.place(0, 10, 5, 0, 16, true);
        screen.clip(0, -1, -1, 3, 2);
        screen.commit(0);
        Checks.same("in the clip", screen.wanted(10, 5), 1000);
        Checks.same("in the clip", screen.wanted(11, 5), 1000);
        Checks.same("right of it", screen.wanted(12, 5), 0);
        Checks.same("below it", screen.wanted(10, 6), 0);
        Checks.same("outside of the surface", screen.wanted(9, 5), 0);
        screen.clip(0, 2, 1, 30, 30);
        screen.commit(0);
        Checks.same("pixels of the clip", wantedPixels(screen), 4);
        Checks.same("its first one", screen.wanted(12, 6), 1000);
        Checks.same("a clip of a clip isn't meant", screen.wanted(10, 5), 0);
    }

    private static void clipEdges() {
        FrameSwapper screen = withPatch();
        screen.place(0, 0, 0, 0, 16, true);
        int[][] empty = {{0, 0, 0, 3}, {0, 0, 3, 0}, {4, 0, 30, 30}, {0, 3, 30, 30}, {-20, -20, 20, 30}, {30, 30, 30, 30}};
        for (int[] e : empty) {
            screen.clip(0, e[0], e[1], e[2], e[3]);
            screen.commit(0);
            Checks.same("a pixel with an empty clip", screen.wanted(0, 0), 0);
            Checks.same("a pixel with an empty clip", screen.wanted(3, 2), 0);
            screen.draw(1);
            Checks.frame(screen);
        }
        screen.clip(0, -20, -20, 21, 21);
        screen.commit(0);
        Checks.same("just the first pixel", screen.wanted(0, 0), 1000);
        Checks.same("not the second", screen.wanted(1, 0), 0);
        int[][] wrong = {{-21, 0, 1, 1}, {31, 0, 1, 1}, {0, -21, 1, 1}, {0, 31, 1, 1}, {0, 0, -1, 1}, {0, 0, 31, 1},
            {0, 0, 1, -1}, {0, 0, 1, 31}, {0, 0, Integer.MAX_VALUE, 1}, {Integer.MIN_VALUE, 0, 1, 1}};
        for (int[] w : wrong) {
            Checks.refused("clip(0, " + w[0] + ", " + w[1] + ", " + w[2] + ", " + w[3] + ")", Checks.ARGUMENT,
                () -> screen.clip(0, w[0], w[1], w[2], w[3]));
        }
        Checks.refused("clip(1, ..)", Checks.ARGUMENT, () -> screen.clip(1, 0, 0, 1, 1));
        Checks.refused("clip(-1, ..)", Checks.ARGUMENT, () -> screen.clip(-1, 0, 0, 1, 1));
    }

    private static void putSetsOnePixel() {
        FrameSwapper screen = withPatch();
        screen.place(0, 0, 0, 0, 16, true);
        screen.put(0, 3, 2, 65535);
        screen.put(0, 0, 1, 0);
        Checks.same("wanted before the commit", screen.wanted(3, 2), 0);
        screen.commit(0);
        Checks.same("put", screen.wanted(3, 2), 65535);
        Checks.same("put", screen.wanted(0, 1), 0);
        Checks.same("its neighbour", screen.wanted(2, 2), 1000);
        Checks.same("its neighbour", screen.wanted(1, 1), 1000);
        screen.put(0, 3, 2, 1);
        Checks.same("what is committed stays", screen.wanted(3, 2), 65535);
    }

    private static void putRefuses() {
        FrameSwapper screen = withPatch();
        int[][] outside = {{-1, 0}, {4, 0}, {0, -1}, {0, 3}, {Integer.MAX_VALUE, 0}, {0, Integer.MIN_VALUE}};
        for (int[] o : outside) {
            Checks.refused("put(0, " + o[0] + ", " + o[1] + ", 1)", Checks.INDEX, () -> screen.put(0, o[0], o[1], 1));
            Checks.refused("a wrong color first", Checks.ARGUMENT, () -> screen.put(0, o[0], o[1], 65536));
        }
        Checks.refused("color -1", Checks.ARGUMENT, () -> screen.put(0, 0, 0, -1));
        Checks.refused("color 65536", Checks.ARGUMENT, () -> screen.put(0, 0, 0, 65536));
        Checks.refused("no surface", Checks.ARGUMENT, () -> screen.put(1, 0, 0, 1));
        Checks.refused("no surface", Checks.ARGUMENT, () -> screen.put(1, 99, 0, 1));
        Checks.refused("no surface", Checks.ARGUMENT, () -> screen.put(-1, 0, 0, 1));
        Checks.refused("no surface", Checks.ARGUMENT, () -> screen.put(10, 0, 0, 1));
    }

    private static void fillCountsWhatItHas() {
        FrameSwapper screen = withPatch();
        Checks.same("all", screen.fill(0, -20, -20, 30, 30, 3), 12);
        Checks.same("the first pixel", screen.fill(0, -20, -20, 21, 21, 4), 1);
        Checks.same("the last pixel", screen.fill(0, 3, 2, 30, 30, 5), 1);
        Checks.same("none to the left", screen.fill(0, -20, 0, 20, 3, 6), 0);
        Checks.same("none to the right", screen.fill(0, 4, 0, 30, 3, 6), 0);
        Checks.same("none at all", screen.fill(0, 30, 30, 30, 30, 6), 0);
        Checks.same("no columns", screen.fill(0, 0, 0, 0, 3, 6), 0);
        Checks.same("no rows", screen.fill(0, 0, 0, 3, 0, 6), 0);
        screen.clip(0, 0, 0, 1, 1);
        Checks.same("the clip doesn't matter", screen.fill(0, 1, 1, 2, 1, 65535), 2);
        screen.clip(0, 0, 0, 4, 3);
        screen.place(0, 0, 0, 0, 16, true);
        screen.commit(0);
        int[] due = {4, 3, 3, 3, 3, 65535, 65535, 3, 3, 3, 3, 5};
        for (int i = 0; i < 12; i++) {
            Checks.same("pixel " + i, screen.wanted(i % 4, i / 4), due[i]);
        }
    }

    private static void fillRefuses() {
        FrameSwapper screen = withPatch();
        int[][] wrong = {{1, 0, 0, 1, 1, 1}, {-1, 0, 0, 1, 1, 1}, {10, 0, 0, 1, 1, 1}, {0, 0, 0, 1, 1, -1},
            {0, 0, 0, 1, 1, 65536}, {0, -21, 0, 1, 1, 1}, {0, 31, 0, 1, 1, 1}, {0, 0, -21, 1, 1, 1}, {0, 0, 31, 1, 1, 1},
            {0, 0, 0, -1, 1, 1}, {0, 0, 0, 31, 1, 1}, {0, 0, 0, 1, -1, 1}, {0, 0, 0, 1, 31, 1}};
        for (int[] w : wrong) {
            Checks.refused("fill" + java.util.Arrays.toString(w), Checks.ARGUMENT,
                () -> screen.fill(w[0], w[1], w[2], w[3], w[4], w[5]));
        }
    }

    /** A surface of 4 by 3 whose pixel i is 100 + i. */
    private static FrameSwapper withNumbers() {
        FrameSwapper screen = withPatch();
        for (int i = 0; i < 12; i++) {
            screen.put(0, i % 4, i / 4, 100 + i);
        }
        screen.place(0, 0, 0, 0, 16, true);
        return screen;
    }

    private static void samePixels(FrameSwapper screen, int columns, int... due) {
        screen.commit(0);
        for (int i = 0; i < due.length; i++) {
            Checks.same("pixel " + i, screen.wanted(i % columns, i / columns), due[i]);
        }
    }

    private static void copyMovesARectangle() {
        FrameSwapper screen = withNumbers();
        int s = screen.surface(0, 3, 4);
        Checks.same("copy", screen.copy(0, s, 1, 1, 2, 2, 0, 2), 4);
        screen.place(0, 0, 0, 0, 16, false);
        screen.place(s, 0, 0, 0, 16, true);
        samePixels(screen, 3, 0, 0, 0, 0, 0, 0, 105, 106, 0, 109, 110, 0);
    }

    private static void copyReadsBeforeItPuts() {
        FrameSwapper right = withNumbers();
        Checks.same("copy to the right and down", right.copy(0, 0, 0, 0, 3, 2, 1, 1), 6);
        samePixels(right, 4, 100, 101, 102, 103, 104, 100, 101, 102, 108, 104, 105, 106);
        FrameSwapper left = withNumbers();
        Checks.same("copy to the left and up", left.copy(0, 0, 1, 1, 3, 2, 0, 0), 6);
        samePixels(left, 4, 105, 106, 107, 103, 109, 110, 111, 107, 108, 109, 110, 111);
        FrameSwapper across = withNumbers();
        Checks.same("copy to the left and down", across.copy(0, 0, 1, 0, 3, 2, 0, 1), 6);
        samePixels(across, 4, 100, 101, 102, 103, 101, 102, 103, 107, 105, 106, 107, 111);
        FrameSwapper still = withNumbers();
        Checks.same("copy to the same place", still.copy(0, 0, 0, 0, 4, 3, 0, 0), 12);
        samePixels(still, 4, 100, 101, 102, 103, 104, 105, 106, 107, 108, 109, 110, 111);
    }

    private static void copyIsCutByBoth() {
        FrameSwapper screen = withNumbers();
        int s = screen.surface(0, 3, 4);
        Checks.same("cut by the source", screen.copy(0, s, -1, -1, 30, 30, 0, 0), 6);
        Checks.same("nothing of the source", screen.copy(0, s, 4, 0, 30, 30, 0, 0), 0);
        Checks.same("nothing of the target", screen.copy(0, s, 0, 0, 4, 3, 3, 0), 0);
        Checks.same("no columns", screen.copy(0, s, 0, 0, 0, 3, 0, 0), 0);
        Checks.same("no rows", screen.copy(0, s, 0, 0, 3, 0, 0, 0), 0);
        Checks.same("far away", screen.copy(0, s, 30, 30, 30, 30, -20, -20), 0);
        Checks.same("cut by the target's left and upper edge", screen.copy(0, s, 2, 1, 30, 30, -1, -1), 1);
        screen.place(0, 0, 0, 0, 16, false);
        screen.place(s, 0, 0, 0, 16, true);
        samePixels(screen, 3, 111, 0, 0, 0, 100, 101, 0, 104, 105, 0, 108, 109);
    }

    private static void copyRefuses() {
        FrameSwapper screen = withNumbers();
        screen.surface(1, 2, 2);
        int[][] wrong = {{0, 2, 0, 0, 1, 1, 0, 0}, {2, 0, 0, 0, 1, 1, 0, 0}, {-1, 0, 0, 0, 1, 1, 0, 0},
            {0, 10, 0, 0, 1, 1, 0, 0}, {0, 1, 0, 0, 1, 1, 0, 0}, {1, 0, 0, 0, 0, 0, 0, 0}, {0, 0, -21, 0, 1, 1, 0, 0},
            {0, 0, 31, 0, 1, 1, 0, 0}, {0, 0, 0, -21, 1, 1, 0, 0}, {0, 0, 0, 31, 1, 1, 0, 0}, {0, 0, 0, 0, -1, 1, 0, 0},
            {0, 0, 0, 0, 31, 1, 0, 0}, {0, 0, 0, 0, 1, -1, 0, 0}, {0, 0, 0, 0, 1, 31, 0, 0}, {0, 0, 0, 0, 1, 1, -21, 0},
            {0, 0, 0, 0, 1, 1, 31, 0}, {0, 0, 0, 0, 1, 1, 0, -21}, {0, 0, 0, 0, 1, 1, 0, 31}};
        for (int[] w : wrong) {
            Checks.refused("copy" + java.util.Arrays.toString(w), Checks.ARGUMENT,
                () -> screen.copy(w[0], w[1], w[2], w[3], w[4], w[5], w[6], w[7]));
        }
        Checks.same("the edges are fine", screen.copy(0, 0, -20, -20, 30, 30, 30, 30), 0);
        Checks.same("the edges are fine", screen.copy(0, 0, 30, 30, 0, 0, -20, -20), 0);
    }

    private static void draftsGoWithDestroy() {
        FrameSwapper screen = withNumbers();
        screen.surface(0, 2, 2);
        screen.commit(0);
        screen.destroy(0);
        Checks.refused("place", Checks.ARGUMENT, () -> screen.place(0, 0, 0, 0, 16, true));
        Checks.refused("clip", Checks.ARGUMENT, () -> screen.clip(0, 0, 0, 1, 1));
        Checks.refused("put", Checks.ARGUMENT, () -> screen.put(0, 0, 0, 1));
        Checks.refused("put outside", Checks.ARGUMENT, () -> screen.put(0, 99, 0, 1));
        Checks.refused("fill", Checks.ARGUMENT, () -> screen.fill(0, 0, 0, 1, 1, 1));
        Checks.refused("copy from", Checks.ARGUMENT, () -> screen.copy(0, 1, 0, 0, 1, 1, 0, 0));
        Checks.refused("copy to", Checks.ARGUMENT, () -> screen.copy(1, 0, 0, 0, 1, 1, 0, 0));
        Checks.same("wanted is as committed", screen.wanted(1, 1), 105);
    }

    private static void refusedChangesNothing() {
        FrameSwapper screen = withNumbers();
        Checks.refused("place", Checks.ARGUMENT, () -> screen.place(0, 5, 5, 1, 17, false));
        Checks.refused("clip", Checks.ARGUMENT, () -> screen.clip(0, 1, 1, 1, 31));
        Checks.refused("put", Checks.ARGUMENT, () -> screen.put(0, 1, 1, 65536));
        Checks.refused("put", Checks.INDEX, () -> screen.put(0, 4, 0, 1));
        Checks.refused("fill", Checks.ARGUMENT, () -> screen.fill(0, 0, 0, 4, 31, 1));
        Checks.refused("copy", Checks.ARGUMENT, () -> screen.copy(0, 0, 0, 0, 3, 3, 1, 31));
        samePixels(screen, 4, 100, 101, 102, 103, 104, 105, 106, 107, 108, 109, 110, 111);
        Checks.same("right of it", screen.wanted(4, 0), 0);
    }
}

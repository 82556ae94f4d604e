import java.util.Arrays;

/** What may be empty, or none at all, and what is not there. */
public final class EmptyTest {
    public static void main(String[] args) {
        emptyClips();
        clipsThatKeepOnePixel();
        notVisible();
        notOnTheScreen();
        onePixelOnTheScreen();
        clipOffTheScreen();
        emptyFill();
        emptyCopy();
        commitOfNoSurfaces();
        noStepsAtAll();
        drawOfNoSteps();
        nothingToTake();
        nothingMoreWhenReady();
        neverCommitted();
        destroyedBeforeAnyCommit();
        onlyWhatIsNotEmptyIsMissed();
        nothingSuchYet();
        Checks.end();
    }

    /** Surface 0 in memory below surface 1, which is above all and covers it if it shows anything. */
    private static FrameSwapper withCover() {
        FrameSwapper screen = new FrameSwapper();
        Checks.patch(screen, 0, 4, 3, 700);
        screen.place(0, 5, 4, 0, 16, true);
        Checks.patch(screen, 1, 4, 3, 900);
        screen.place(1, 5, 4, 9, 16, true);
        return screen;
    }

    private static void showsNothing(String what, FrameSwapper screen) {
        screen.commit(0);
        screen.commit(1);
        Checks.same(what + ": wanted", screen.wanted(5, 4), 700);
        Checks.same(what + ": steps", screen.draw(200), 0);
        Checks.same(what + ": what it doesn't cover gets plane 0", screen.plane(0), 0);
        Checks.same(what + ": plane(1)", screen.plane(1), -1);
        Checks.frame(screen);
        Checks.noMissed(screen, 0);
        Checks.frame(screen);
        Checks.same(what + ": seen", screen.seen(8, 6), 700);
    }

    private static void emptyClips() {
        int[][] clips = {{0, 0, 0, 0}, {0, 0, 0, 3}, {0, 0, 4, 0}, {2, 1, 0, 30}, {2, 1, 30, 0}, {4, 0, 30, 30},
            {0, 3, 30, 30}, {-20, 0, 20, 3}, {0, -20, 4, 20}, {-1, -1, 1, 30}, {-1, -1, 30, 1}, {30, 30, 30, 30},
            {-20, -20, 0, 0}, {30, -20, 30, 30}};
        for (int[] c : clips) {
            FrameSwapper screen = withCover();
            screen.clip(1, c[0], c[1], c[2], c[3]);
            showsNothing("clip " + Arrays.toString(c), screen);
            screen.clip(1, -20, -20, 30, 30);
            screen.commit(1);
            Checks.same("wanted with all of it in the clip again", screen.wanted(5, 4), 900);
        }
    }

    private static void clipsThatKeepOnePixel() {
        // Clip (x, y, columns, rows) and the pixel that it keeps.
        int[][] clips = {{-20, -20, 21, 21, 0, 0}, {-1, -1, 2, 2, 0, 0}, {3, 2, 30, 30, 3, 2}, {3, 2, 1, 1, 3, 2},
            {3, -20, 30, 21, 3, 0}, {-20, 2, 21, 30, 0, 2}, {1, 1, 1, 1, 1, 1}};
        for (int[] c : clips) {
            FrameSwapper screen = withCover();
            screen.clip(1, c[0], c[1], c[2], c[3]);
            screen.commit(1);
            for (int y = 3; y < 8; y++) {
                for (int x = 4; x < 10; x++) {
                    int due = x == 5 + c[4] && y == 4 + c[5] ? 900 : 0;
                    Checks.same("wanted with clip " + Arrays.toString(c), screen.wanted(x, y), due);
                }
            }
            screen.draw(200);
            Checks.same("plane(0)", screen.plane(0), 1);
        }
    }

    private static void notVisible() {
        FrameSwapper screen = withCover();
        screen.place(1, 5, 4, 9, 16, false);
        showsNothing("not visible", screen);
    }

    private static void notOnTheScreen() {
        int[][] places = {{-4, 4}, {20, 4}, {5, -3}, {5, 10}, {-20, -20}, {30, 30}, {-20, 30}, {30, -20}, {-4, -3}, {20, 10}};
        for (int[] p : places) {
            FrameSwapper screen = withCover();
            screen.place(1, p[0], p[1], 9, 16, true);
            showsNothing("place " + Arrays.toString(p), screen);
        }
    }

    private static void onePixelOnTheScreen() {
        int[][] places = {{-3, -2, 0, 0}, {19, -2, 19, 0}, {-3, 9, 0, 9}, {19, 9, 19, 9}};
        for (int[] p : places) {
            FrameSwapper screen = withCover();
            screen.place(1, p[0], p[1], 9, 16, true);
            screen.commit(1);
            Checks.same("wanted", screen.wanted(p[2], p[3]), 900);
            Checks.same("wanted beside it", screen.wanted(Math.abs(p[2] - 1), p[3]), 0);
            Checks.same("wanted above or below it", screen.wanted(p[2], Math.abs(p[3] - 1)), 0);
            screen.draw(200);
            Checks.same("plane(0)", screen.plane(0), 1);
            Checks.frame(screen);
            Checks.frame(screen);
            Checks.same("seen", screen.seen(p[2], p[3]), 900);
        }
    }

    /** The surface lies on the screen in part, but what its clip leaves doesn't. */
    private static void clipOffTheScreen() {
        int[][] cases = {{-2, 4, 0, 0, 2, 3}, {18, 4, 2, 0, 2, 3}, {5, -1, 0, 0, 4, 1}, {5, 8, 0, 2, 4, 1}};
        for (int[] c : cases) {
            FrameSwapper screen = withCover();
            screen.place(1, c[0], c[1], 9, 16, true);
            screen.clip(1, c[2], c[3], c[4], c[5]);
            showsNothing("place and clip " + Arrays.toString(c), screen);
        }
    }

    private static void emptyFill() {
        FrameSwapper screen = withCover();
        int[][] areas = {{0, 0, 0, 0}, {0, 0, 0, 3}, {0, 0, 4, 0}, {4, 0, 30, 30}, {0, 3, 30, 30}, {-20, 0, 20, 3},
            {0, -20, 4, 20}, {30, 30, 30, 30}, {-20, -20, 0, 0}};
        for (int[] a : areas) {
            Checks.same("fill " + Arrays.toString(a), screen.fill(1, a[0], a[1], a[2], a[3], 5), 0);
        }
        screen.commit(1);
        for (int i = 0; i < 12; i++) {
            Checks.same("its pixels are as they were", screen.wanted(5 + i % 4, 4 + i / 4), 900);
        }
    }

    private static void emptyCopy() {
        FrameSwapper screen = withCover();
        int s = Checks.patch(screen, 1, 2, 2, 5);
        // Of surface s into surface 1: no columns, no rows, nothing of the one or of the other, never the same of both.
        int[][] cases = {{0, 0, 0, 2, 0, 0}, {0, 0, 2, 0, 0, 0}, {2, 0, 30, 30, 0, 0}, {0, 2, 30, 30, 0, 0},
            {-20, 0, 20, 2, 0, 0}, {0, -20, 2, 20, 0, 0}, {0, 0, 2, 2, 4, 0}, {0, 0, 2, 2, 0, 3}, {0, 0, 2, 2, -2, 0},
            {0, 0, 2, 2, 0, -2}, {-2, 0, 30, 30, 2, 0}, {1, 1, 30, 30, -1, 0}, {-4, 0, 30, 30, 0, 0}};
        for (int[] c : cases) {
            Checks.same("copy " + Arrays.toString(c), screen.copy(s, 1, c[0], c[1], c[2], c[3], c[4], c[5]), 0);
        }
        screen.commit(1);
        for (int i = 0; i < 12; i++) {
            Checks.same("its pixels are as they were", screen.wanted(5 + i % 4, 4 + i / 4), 900);
        }
    }

    private static void commitOfNoSurfaces() {
        FrameSwapper screen = new FrameSwapper();
        for (int client = 0; client < 4; client++) {
            Checks.same("commit", screen.commit(client), client + 1);
        }
        Checks.same("state", screen.state(), 0);
        Checks.same("draw", screen.draw(1), 0);
        Checks.same("state", screen.state(), 2);
        Checks.same("count(2)", screen.count(2), 4);
        Checks.frame(screen);
        Checks.same("state", screen.state(), 0);
        Checks.same("count(1)", screen.count(1), 0);
        Checks.frame(screen);
        Checks.same("count(1)", screen.count(1), 4);
        Checks.same("seen", screen.seen(0, 0), 0);
        Checks.same("free", screen.free(), 300);
    }

    private static void noStepsAtAll() {
        FrameSwapper screen = withCover();
        screen.place(0, 0, 0, 0, 15, true);
        screen.commit(0);
        Checks.same("steps", screen.draw(200), 2);
        Checks.frame(screen);
        screen.commit(2);
        Checks.same("steps for what the other memory misses", screen.draw(200), 2);
        Checks.frame(screen);
        screen.commit(2);
        Checks.same("no steps at all", screen.draw(1), 0);
        Checks.same("it is ready at once", screen.state(), 2);
        Checks.same("count(2)", screen.count(2), 3);
        Checks.frame(screen);
        Checks.same("state", screen.state(), 0);
        Checks.noMissed(screen, 0);
        Checks.frame(screen);
        Checks.same("count(1)", screen.count(1), 3);
        Checks.same("seen", screen.seen(0, 0) > 0 ? 1 : 0, 1);
    }

    private static void drawOfNoSteps() {
        FrameSwapper screen = withCover();
        screen.place(1, 5, 4, 9, 15, true);
        screen.commit(1);
        Checks.same("draw(0) when it rests", screen.draw(0), 0);
        Checks.same("state", screen.state(), 0);
        Checks.same("count(2)", screen.count(2), 0);
        screen.draw(1);
        Checks.same("draw(0) when it composes", screen.draw(0), 0);
        Checks.same("state", screen.state(), 1);
        Checks.sameMissed(screen, 0, 5, 4, 4, 3);
        Checks.same("a step is left", screen.draw(200), 1);
        Checks.same("draw(0) when it is ready", screen.draw(0), 0);
        Checks.same("state", screen.state(), 2);
    }

    private static void nothingToTake() {
        FrameSwapper screen = withCover();
        Checks.same("draw before any commit", screen.draw(200), 0);
        Checks.same("state", screen.state(), 0);
        screen.commit(0);
        screen.draw(200);
        Checks.frame(screen);
        screen.place(0, 0, 0, 0, 15, true);
        Checks.same("draw when all were taken", screen.draw(200), 0);
        Checks.same("state", screen.state(), 0);
        Checks.same("count(2)", screen.count(2), 1);
        Checks.same("plane(0)", screen.plane(0), 0);
    }

    private static void nothingMoreWhenReady() {
        FrameSwapper screen = withCover();
        screen.commit(0);
        screen.draw(1);
        Checks.same("state", screen.state(), 2);
        screen.commit(1);
        Checks.same("draw when it is ready", screen.draw(200), 0);
        Checks.same("state", screen.state(), 2);
        Checks.same("count(2)", screen.count(2), 1);
        for (int row = 0; row < 10; row++) {
            screen.scan();
        }
        Checks.same("draw behind the last row", screen.draw(200), 0);
        Checks.same("state", screen.state(), 2);
        screen.scan();
        Checks.same("state behind the gap", screen.state(), 0);
        screen.draw(1);
        Checks.same("count(2)", screen.count(2), 2);
    }

    private static void neverCommitted() {
        FrameSwapper screen = new FrameSwapper();
        screen.commit(0);
        Checks.patch(screen, 0, 4, 3, 700);
        screen.place(0, 5, 4, 0, 16, true);
        screen.commit(1);
        Checks.same("wanted", screen.wanted(5, 4), 0);
        screen.draw(200);
        Checks.same("plane(0)", screen.plane(0), -1);
        Checks.frame(screen);
        Checks.noMissed(screen, 0);
    }

    private static void destroyedBeforeAnyCommit() {
        FrameSwapper screen = withCover();
        screen.destroy(0);
        screen.commit(1);
        screen.draw(1);
        Checks.same("free when only another client committed", screen.free(), 276);
        Checks.frame(screen);
        screen.commit(0);
        Checks.same("free when it was committed", screen.free(), 276);
        Checks.same("steps", screen.draw(200), 0);
        Checks.same("free when that was taken", screen.free(), 288);
        Checks.frame(screen);
        Checks.noMissed(screen, 0);
        Checks.same("its number", screen.surface(3, 1, 1), 0);
    }

    private static void onlyWhatIsNotEmptyIsMissed() {
        FrameSwapper screen = new FrameSwapper();
        Checks.patch(screen, 0, 4, 3, 700);
        screen.place(0, 5, 4, 0, 15, true);
        screen.commit(0);
        screen.draw(1);
        Checks.sameMissed(screen, 0, 5, 4, 4, 3);
        Checks.noMissed(screen, 1);
        Checks.same("a step is left", screen.draw(200), 1);
        Checks.frame(screen);
        screen.commit(2);
        screen.draw(200);
        Checks.frame(screen);
        screen.place(0, 20, 4, 0, 15, true);
        screen.commit(0);
        Checks.same("what was shown becomes 0", screen.draw(200), 1);
        Checks.frame(screen);
        Checks.sameMissed(screen, 0, 5, 4, 4, 3);
        Checks.noMissed(screen, 1);
        screen.commit(2);
        screen.draw(200);
        Checks.frame(screen);
        screen.commit(0);
        Checks.same("neither of before nor of now", screen.draw(200), 0);
        Checks.frame(screen);
        Checks.noMissed(screen, 0);
    }

    private static void nothingSuchYet() {
        FrameSwapper screen = withCover();
        screen.commit(1);
        Checks.same("plane(0) before it began", screen.plane(0), -1);
        Checks.same("count(1) before", screen.count(1), 0);
        Checks.same("count(2) before", screen.count(2), 0);
        Checks.noMissed(screen, 0);
        Checks.same("seen before", screen.seen(5, 4), 0);
        screen.draw(1);
        Checks.same("plane(0)", screen.plane(0), 1);
        Checks.same("plane(1), of which there is none", screen.plane(1), -1);
        Checks.same("count(1) before the second gap", screen.count(1), 0);
        Checks.frame(screen);
        Checks.same("count(1) before the second gap", screen.count(1), 0);
        Checks.frame(screen);
        Checks.same("count(1)", screen.count(1), 1);
    }
}

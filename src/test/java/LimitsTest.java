/** How many there may be at most: just as many are fine, one more is not. */
public final class LimitsTest {
    public static void main(String[] args) {
        threeHundredPixels();
        threeHundredPixelsByTen();
        pixelsOfDestroyedOnesAreNotFree();
        tenSurfaces();
        destroyedOnesAreAmongTheTen();
        sixCommits();
        sixCommitsMoreWhileItComposes();
        sixCommitsMoreWhenItIsReady();
        commitsWithoutSurfacesAreAmongTheSix();
        twentyFourPixels();
        twentyFourPixelsOfALargerOne();
        twoPlanes();
        planesAreNotKeptForThoseThatDoNotFit();
        sixRectangles();
        sevenRectangles();
        mostSteps();
        asManyStepsAsAreLeft();
        allIsMissedToTheLastStep();
        fiveHundredTwelveScans();
        fiveHundredTwelveCallsWithCommits();
        Checks.end();
    }

    /** A surface of client 0 with one color, visible at a place; those of alpha 15 go to no plane. */
    private static int box(FrameSwapper screen, int x, int y, int columns, int rows, int alpha) {
        int s = Checks.patch(screen, 0, columns, rows, 2000);
        screen.place(s, x, y, 0, alpha, true);
        return s;
    }

    private static void threeHundredPixels() {
        int[][] lasts = {{12, 1}, {6, 2}, {4, 3}, {3, 4}, {2, 6}};
        for (int[] last : lasts) {
            FrameSwapper screen = new FrameSwapper();
            for (int i = 0; i < 3; i++) {
                screen.surface(i, 12, 8);
            }
            Checks.same("free", screen.free(), 12);
            Checks.refused("301 pixels and more", Checks.STATE, () -> screen.surface(3, last[0], last[1] + 1));
            Checks.same("free", screen.free(), 12);
            Checks.same("300 pixels", screen.surface(3, last[0], last[1]), 3);
            Checks.same("free", screen.free(), 0);
            Checks.refused("301 pixels", Checks.STATE, () -> screen.surface(3, 1, 1));
            Checks.same("free", screen.free(), 0);
        }
        FrameSwapper screen = new FrameSwapper();
        for (int i = 0; i < 3; i++) {
            screen.surface(i, 12, 8);
        }
        screen.surface(3, 1, 1);
        Checks.refused("just 301 pixels", Checks.STATE, () -> screen.surface(3, 12, 1));
        Checks.same("just 300 pixels", screen.surface(3, 11, 1), 4);
    }

    private static void threeHundredPixelsByTen() {
        FrameSwapper screen = new FrameSwapper();
        for (int s = 0; s < 10; s++) {
            Checks.same("surface", screen.surface(s % 4, 6, 5), s);
            Checks.same("free", screen.free(), 270 - 30 * s);
        }
        for (int s = 0; s < 10; s++) {
            Checks.same("all of its pixels are there", screen.fill(s, 0, 0, 30, 30, 65535), 30);
        }
    }

    private static void pixelsOfDestroyedOnesAreNotFree() {
        FrameSwapper screen = new FrameSwapper();
        for (int i = 0; i < 3; i++) {
            screen.surface(i, 12, 8);
        }
        screen.destroy(1);
        Checks.same("free when it was destroyed", screen.free(), 12);
        Checks.refused("13 pixels", Checks.STATE, () -> screen.surface(0, 7, 2));
        screen.commit(1);
        Checks.same("free when that was committed", screen.free(), 12);
        Checks.refused("13 pixels", Checks.STATE, () -> screen.surface(0, 7, 2));
        screen.draw(1);
        Checks.same("free when that was taken", screen.free(), 108);
        Checks.same("96 pixels", screen.surface(0, 12, 8), 1);
        Checks.same("free", screen.free(), 12);
    }

    private static void tenSurfaces() {
        FrameSwapper screen = new FrameSwapper();
        for (int s = 0; s < 9; s++) {
            screen.surface(0, 1, 1);
        }
        Checks.same("the tenth", screen.surface(3, 1, 1), 9);
        for (int client = 0; client < 4; client++) {
            int of = client;
            Checks.refused("an eleventh", Checks.STATE, () -> screen.surface(of, 1, 1));
        }
        Checks.same("free", screen.free(), 290);
        Checks.same("the tenth is a surface as any", screen.fill(9, 0, 0, 1, 1, 5), 1);
        screen.place(9, 19, 9, 9, 16, true);
        screen.commit(3);
        Checks.same("wanted", screen.wanted(19, 9), 5);
    }

    private static void destroyedOnesAreAmongTheTen() {
        FrameSwapper screen = new FrameSwapper();
        for (int s = 0; s < 10; s++) {
            screen.surface(s % 4, 1, 1);
        }
        screen.destroy(9);
        screen.destroy(4);
        Checks.refused("when two were destroyed", Checks.STATE, () -> screen.surface(0, 1, 1));
        screen.commit(0);
        Checks.refused("when one of both was committed", Checks.STATE, () -> screen.surface(0, 1, 1));
        screen.draw(1);
        Checks.same("when that was taken", screen.surface(0, 1, 1), 4);
        Checks.refused("the other one is there", Checks.STATE, () -> screen.surface(0, 1, 1));
        Checks.frame(screen);
        screen.commit(1);
        screen.draw(1);
        Checks.same("when it was taken too", screen.surface(0, 1, 1), 9);
    }

    private static void sixCommits() {
        FrameSwapper screen = new FrameSwapper();
        int s = Checks.patch(screen, 0, 5, 5, 1);
        screen.place(s, 0, 0, 0, 16, true);
        for (int i = 1; i <= 5; i++) {
            screen.commit(i % 3);
        }
        screen.fill(s, 0, 0, 5, 5, 6);
        Checks.same("the sixth", screen.commit(0), 6);
        screen.fill(s, 0, 0, 5, 5, 7);
        for (int client = 0; client < 4; client++) {
            int of = client;
            Checks.refused("a seventh", Checks.STATE, () -> screen.commit(of));
        }
        Checks.same("wanted is of the sixth", screen.wanted(4, 4), 6);
        screen.draw(1);
        Checks.same("all six were taken", screen.count(2), 6);
        Checks.same("the seventh", screen.commit(0), 7);
        Checks.same("wanted is of the seventh", screen.wanted(4, 4), 7);
    }

    private static void sixCommitsMoreWhileItComposes() {
        FrameSwapper screen = new FrameSwapper();
        box(screen, 0, 0, 5, 5, 16);
        screen.commit(0);
        screen.draw(1);
        Checks.same("state", screen.state(), 1);
        for (int i = 2; i <= 7; i++) {
            Checks.same("commit", screen.commit(0), i);
            screen.draw(0);
        }
        Checks.refused("a seventh that waits", Checks.STATE, () -> screen.commit(0));
        Checks.same("count(2)", screen.count(2), 1);
    }

    private static void sixCommitsMoreWhenItIsReady() {
        FrameSwapper screen = new FrameSwapper();
        screen.commit(0);
        screen.draw(1);
        Checks.same("state", screen.state(), 2);
        for (int i = 2; i <= 7; i++) {
            Checks.same("commit", screen.commit(0), i);
        }
        Checks.refused("a seventh that waits", Checks.STATE, () -> screen.commit(0));
        screen.draw(200);
        Checks.refused("before the gap", Checks.STATE, () -> screen.commit(0));
        Checks.frame(screen);
        Checks.refused("before it begins", Checks.STATE, () -> screen.commit(0));
        screen.draw(1);
        Checks.same("count(2)", screen.count(2), 7);
        Checks.same("commit", screen.commit(0), 8);
    }

    private static void commitsWithoutSurfacesAreAmongTheSix() {
        FrameSwapper screen = new FrameSwapper();
        for (int i = 1; i <= 6; i++) {
            Checks.same("commit", screen.commit(3), i);
        }
        box(screen, 0, 0, 1, 1, 16);
        Checks.refused("one with a surface", Checks.STATE, () -> screen.commit(0));
        Checks.refused("one without", Checks.STATE, () -> screen.commit(3));
    }

    private static void twentyFourPixels() {
        int[][] fit = {{12, 2}, {8, 3}, {6, 4}, {4, 6}, {3, 8}, {1, 1}};
        for (int[] size : fit) {
            FrameSwapper screen = new FrameSwapper();
            box(screen, 0, 0, size[0], size[1], 16);
            screen.commit(0);
            Checks.same("steps with " + size[0] + " by " + size[1], screen.draw(200), 0);
            Checks.same("plane(0) with " + size[0] + " by " + size[1], screen.plane(0), 0);
            Checks.frame(screen);
            Checks.frame(screen);
            Checks.same("its last pixel is seen", screen.seen(size[0] - 1, size[1] - 1), 2000);
            Checks.same("right of it", screen.seen(size[0], size[1] - 1), 0);
            Checks.same("below it", screen.seen(size[0] - 1, size[1]), 0);
        }
        int[][] tooLarge = {{5, 5}, {9, 3}, {7, 4}, {12, 3}, {12, 8}};
        for (int[] size : tooLarge) {
            FrameSwapper screen = new FrameSwapper();
            box(screen, 0, 0, size[0], size[1], 16);
            screen.commit(0);
            Checks.same("steps with " + size[0] + " by " + size[1], screen.draw(200), 2);
            Checks.same("plane(0) with " + size[0] + " by " + size[1], screen.plane(0), -1);
        }
    }

    /** Its shown rectangle counts, not the surface: what the clip leaves, and what lies on the screen. */
    private static void twentyFourPixelsOfALargerOne() {
        // Clip (x, y, columns, rows), place (x, y), and whether a plane is given.
        int[][] cases = {{0, 0, 12, 2, 0, 0, 1}, {4, 1, 4, 6, 0, 0, 1}, {1, 1, 5, 5, 0, 0, 0}, {0, 0, 12, 8, 18, 0, 1},
            {0, 0, 12, 8, 17, 0, 1}, {0, 0, 12, 8, 16, 0, 0}, {0, 0, 12, 8, -9, 0, 1}, {0, 0, 12, 8, -8, 0, 0},
            {0, 0, 12, 8, 0, 8, 1}, {0, 0, 12, 8, 0, 7, 0}, {0, 0, 12, 8, 0, -6, 1}, {0, 0, 12, 8, 0, -5, 0},
            {0, 0, 6, 8, 5, -4, 1}, {0, 0, 7, 8, 5, -4, 0}};
        for (int[] c : cases) {
            FrameSwapper screen = new FrameSwapper();
            int s = box(screen, c[4], c[5], 12, 8, 16);
            screen.clip(s, c[0], c[1], c[2], c[3]);
            screen.commit(0);
            screen.draw(200);
            Checks.same("plane(0) with " + java.util.Arrays.toString(c), screen.plane(0), c[6] - 1);
        }
    }

    private static void twoPlanes() {
        FrameSwapper screen = new FrameSwapper();
        for (int s = 0; s < 3; s++) {
            box(screen, 5 * s, 0, 2, 2, 16);
        }
        screen.commit(0);
        screen.draw(1);
        Checks.same("plane(0)", screen.plane(0), 2);
        Checks.same("plane(1)", screen.plane(1), 1);
        Checks.same("plane(2)", screen.plane(2), -1);
        Checks.sameMissed(screen, 0, 0, 0, 2, 2);
        Checks.noMissed(screen, 1);
        screen.draw(200);
        Checks.frame(screen);
        Checks.frame(screen);
        for (int x = 0; x < 15; x++) {
            Checks.same("seen(" + x + ", 1)", screen.seen(x, 1), x % 5 < 2 ? 2000 : 0);
        }
    }

    private static void planesAreNotKeptForThoseThatDoNotFit() {
        FrameSwapper screen = new FrameSwapper();
        int[] alphas = {16, 16, 15, 16, 0};
        for (int s = 0; s < 5; s++) {
            box(screen, 4 * s, 0, 2, 2, alphas[s]);
        }
        screen.place(3, 12, 0, 0, 16, false);
        screen.commit(0);
        screen.draw(200);
        Checks.same("plane(0)", screen.plane(0), 1);
        Checks.same("plane(1)", screen.plane(1), 0);
    }

    private static void sixRectangles() {
        FrameSwapper screen = new FrameSwapper();
        for (int s = 0; s < 6; s++) {
            box(screen, s, 0, 1, 1, 15);
        }
        screen.commit(0);
        screen.draw(1);
        for (int i = 0; i < 6; i++) {
            Checks.sameMissed(screen, i, i, 0, 1, 1);
        }
        Checks.noMissed(screen, 6);
        Checks.same("steps", screen.draw(200), 11);
    }

    private static void sevenRectangles() {
        FrameSwapper screen = new FrameSwapper();
        for (int s = 0; s < 7; s++) {
            box(screen, s, 0, 1, 1, 15);
        }
        screen.commit(0);
        screen.draw(1);
        Checks.sameMissed(screen, 0, 0, 0, 2, 1);
        for (int i = 1; i < 6; i++) {
            Checks.sameMissed(screen, i, i + 1, 0, 1, 1);
        }
        Checks.noMissed(screen, 6);
        Checks.same("steps", screen.draw(200), 12);
    }

    /** Ten surfaces with all the pixels that there are, all of which meet all of six rectangles. */
    private static FrameSwapper withMostSteps() {
        FrameSwapper screen = new FrameSwapper();
        for (int s = 0; s < 10; s++) {
            box(screen, 5 + s % 5, 3 + s / 5, 6, 5, 16);
        }
        screen.commit(0);
        return screen;
    }

    private static void mostSteps() {
        FrameSwapper screen = withMostSteps();
        Checks.same("steps", screen.draw(200), 66);
        Checks.same("state", screen.state(), 2);
    }

    private static void asManyStepsAsAreLeft() {
        FrameSwapper screen = withMostSteps();
        Checks.same("draw(65)", screen.draw(65), 65);
        Checks.same("state", screen.state(), 1);
        Checks.same("six are missed to the last step", screen.missed(5, 2) > 0 ? 1 : 0, 1);
        Checks.same("the last step", screen.draw(1), 1);
        Checks.same("state", screen.state(), 2);
        Checks.noMissed(screen, 0);
        Checks.same("no more", screen.draw(1), 0);
        FrameSwapper just = withMostSteps();
        Checks.same("draw(66)", just.draw(66), 66);
        Checks.same("state", just.state(), 2);
        FrameSwapper more = withMostSteps();
        Checks.same("draw(67)", more.draw(67), 66);
        Checks.same("state", more.state(), 2);
        FrameSwapper single = withMostSteps();
        for (int i = 1; i <= 66; i++) {
            Checks.same("draw(1)", single.draw(1), 1);
            Checks.same("state after " + i, single.state(), i < 66 ? 1 : 2);
        }
        Checks.same("draw(1)", single.draw(1), 0);
    }

    /** "While the back memory is redrawn, all that it missed when that began." */
    private static void allIsMissedToTheLastStep() {
        FrameSwapper screen = new FrameSwapper();
        int[][] boxes = {{0, 0, 5, 5}, {3, 2, 5, 5}, {15, 5, 5, 5}};
        for (int[] b : boxes) {
            box(screen, b[0], b[1], b[2], b[3], 16);
        }
        screen.commit(0);
        for (int step = 1; step <= 7; step++) {
            Checks.same("draw(1)", screen.draw(1), 1);
            for (int i = 0; i < 3; i++) {
                Checks.sameMissed(screen, i, boxes[i][0], boxes[i][1], boxes[i][2], boxes[i][3]);
            }
            Checks.noMissed(screen, 3);
            screen.scan();
            // What comes meanwhile is added when the composer begins again, not before.
            screen.place(0, step, 0, 0, 16, true);
            if (step <= 6) {
                screen.commit(0);
            }
        }
        Checks.same("the last step", screen.draw(1), 1);
        Checks.noMissed(screen, 0);
        Checks.frame(screen);
        for (int i = 0; i < 3; i++) {
            Checks.sameMissed(screen, i, boxes[i][0], boxes[i][1], boxes[i][2], boxes[i][3]);
        }
        Checks.noMissed(screen, 3);
    }

    private static void fiveHundredTwelveScans() {
        FrameSwapper screen = new FrameSwapper();
        for (int i = 0; i < 511; i++) {
            Checks.same("scan " + i, screen.scan(), i % 11 < 10 ? i % 11 : -1);
        }
        Checks.same("frames", screen.count(0), 46);
    }

    private static void fiveHundredTwelveCallsWithCommits() {
        FrameSwapper screen = new FrameSwapper();
        box(screen, 0, 0, 5, 5, 16);
        int commits = 0;
        // Three calls were made; 19 of each turn go 26 times into what is left.
        for (int turn = 0; turn < 26; turn++) {
            for (int i = 0; i < 6; i++) {
                commits++;
                Checks.same("commit", screen.commit(i % 4), commits);
            }
            screen.draw(200);
            Checks.frame(screen);
            Checks.same("count(1)", screen.count(1), commits - 6);
        }
        Checks.same("count(2)", screen.count(2), 156);
        Checks.same("count(0)", screen.count(0), 26);
        Checks.same("state", screen.state(), 0);
        Checks.same("free", screen.free(), 275);
    }
}

/** Promises 10, 12, 16 and 17: draw, state, missed, plane. */
public final class ComposeTest {
    public static void main(String[] args) {
        drawRefuses();
        beginsOnlyWhenItRests();
        stepsAreCounted();
        bothMemoriesMiss();
        onlyWhatHasChanged();
        beforeComesFirst();
        withinIsNotAdded();
        sevenAreJoined();
        overlappingAreJoinedFirst();
        firstOfEqualPairs();
        planesFromAbove();
        planesNeedAllOfIt();
        planeAndMemoryChange();
        whatAPlaneShowedIsNotMissed();
        missedAnswersNone();
        Checks.end();
    }

    private static void drawRefuses() {
        FrameSwapper screen = new FrameSwapper();
        screen.commit(0);
        int[] wrong = {-1, 201, Integer.MIN_VALUE, Integer.MAX_VALUE};
        for (int n : wrong) {
            Checks.refused("draw(" + n + ")", Checks.ARGUMENT, () -> screen.draw(n));
        }
        Checks.same("state", screen.state(), 0);
        Checks.same("count(2)", screen.count(2), 0);
        Checks.same("draw(200)", screen.draw(200), 0);
        Checks.same("state", screen.state(), 2);
    }

    private static void beginsOnlyWhenItRests() {
        FrameSwapper screen = new FrameSwapper();
        int s = Checks.patch(screen, 0, 5, 5, 9);
        screen.place(s, 0, 0, 0, 16, true);
        screen.commit(0);
        Checks.same("draw(0)", screen.draw(0), 0);
        Checks.same("state", screen.state(), 0);
        Checks.noMissed(screen, 0);
        Checks.same("draw(1)", screen.draw(1), 1);
        Checks.same("state", screen.state(), 1);
        screen.place(s, 1, 1, 0, 16, true);
        screen.commit(0);
        Checks.same("draw(0)", screen.draw(0), 0);
        Checks.same("state", screen.state(), 1);
        Checks.same("the last step", screen.draw(1), 1);
        Checks.same("state", screen.state(), 2);
        Checks.same("draw(200) when ready", screen.draw(200), 0);
        Checks.same("count(2)", screen.count(2), 1);
        Checks.frame(screen);
        Checks.same("state", screen.state(), 0);
        Checks.same("the next one", screen.draw(200), 4);
        Checks.same("count(2)", screen.count(2), 2);
        Checks.frame(screen);
        Checks.same("nothing to take", screen.draw(200), 0);
        Checks.same("state", screen.state(), 0);
    }

    private static void stepsAreCounted() {
        FrameSwapper screen = new FrameSwapper();
        int[][] places = {{0, 0}, {4, 4}, {14, 0}};
        for (int[] p : places) {
            int s = Checks.patch(screen, 0, 6, 5, 9);
            screen.place(s, p[0], p[1], 0, 0, true);
        }
        screen.surface(0, 1, 1);
        screen.commit(0);
        // Two of them meet: three steps for each of both, two for the third.
        Checks.same("draw(7)", screen.draw(7), 7);
        Checks.same("state", screen.state(), 1);
        Checks.sameMissed(screen, 0, 0, 0, 6, 5);
        Checks.sameMissed(screen, 2, 14, 0, 6, 5);
        Checks.same("draw(7)", screen.draw(7), 1);
        Checks.same("state", screen.state(), 2);
        Checks.noMissed(screen, 0);
    }

    private static void bothMemoriesMiss() {
        FrameSwapper screen = new FrameSwapper();
        int s = Checks.patch(screen, 0, 5, 5, 9);
        screen.place(s, 2, 3, 0, 16, true);
        screen.commit(0);
        screen.draw(200);
        Checks.noMissed(screen, 0);
        Checks.frame(screen);
        Checks.sameMissed(screen, 0, 2, 3, 5, 5);
        Checks.noMissed(screen, 1);
        screen.commit(1);
        Checks.same("what the other memory missed", screen.draw(200), 2);
        Checks.frame(screen);
        Checks.noMissed(screen, 0);
        screen.commit(1);
        Checks.same("nothing is missed", screen.draw(200), 0);
        Checks.same("state", screen.state(), 2);
    }

    private static void onlyWhatHasChanged() {
        FrameSwapper screen = new FrameSwapper();
        for (int client = 0; client < 2; client++) {
            int s = Checks.patch(screen, client, 5, 5, 9);
            screen.place(s, 10 * client, 0, 0, 16, true);
            screen.commit(client);
        }
        Checks.show(screen);
        screen.commit(2);
        Checks.show(screen);
        Checks.noMissed(screen, 0);
        screen.commit(1);
        Checks.same("draw(1)", screen.draw(1), 1);
        Checks.sameMissed(screen, 0, 10, 0, 5, 5);
        Checks.noMissed(screen, 1);
    }

    private static void beforeComesFirst() {
        FrameSwapper screen = new FrameSwapper();
        int[] columns = {0, 10};
        for (int x : columns) {
            int s = Checks.patch(screen, 0, 5, 5, 9);
            screen.place(s, x, 0, 0, 16, true);
        }
        screen.commit(0);
        Checks.show(screen);
        screen.commit(1);
        Checks.show(screen);
        screen.place(0, 1, 1, 0, 16, true);
        screen.place(1, 11, 1, 0, 16, true);
        screen.commit(0);
        screen.draw(1);
        Checks.sameMissed(screen, 0, 0, 0, 5, 5);
        Checks.sameMissed(screen, 1, 1, 1, 5, 5);
        Checks.sameMissed(screen, 2, 10, 0, 5, 5);
        Checks.sameMissed(screen, 3, 11, 1, 5, 5);
        Checks.noMissed(screen, 4);
    }

    private static void withinIsNotAdded() {
        FrameSwapper screen = new FrameSwapper();
        int[][] sizes = {{3, 3, 5, 5}, {2, 2, 8, 7}, {4, 4, 5, 5}, {5, 4, 5, 5}, {6, 4, 5, 5}};
        for (int[] p : sizes) {
            int s = Checks.patch(screen, 0, p[2], p[3], 9);
            screen.place(s, p[0], p[1], 0, 15, true);
        }
        screen.commit(0);
        screen.draw(1);
        Checks.sameMissed(screen, 0, 3, 3, 5, 5);
        Checks.sameMissed(screen, 1, 2, 2, 8, 7);
        Checks.sameMissed(screen, 2, 6, 4, 5, 5);
        Checks.noMissed(screen, 3);
    }

    /** Surfaces of alpha 15, which no plane takes, each at its place and with its size. */
    private static FrameSwapper withBoxes(int[][] boxes) {
        FrameSwapper screen = new FrameSwapper();
        for (int[] b : boxes) {
            int s = Checks.patch(screen, 0, b[2], b[3], 9);
            screen.place(s, b[0], b[1], 0, 15, true);
        }
        screen.commit(0);
        screen.draw(1);
        return screen;
    }

    private static void sevenAreJoined() {
        FrameSwapper screen = withBoxes(new int[][] {{0, 0, 1, 1}, {19, 0, 1, 1}, {0, 9, 1, 1}, {10, 4, 2, 2},
            {19, 9, 1, 1}, {5, 9, 1, 1}, {12, 5, 3, 1}});
        Checks.sameMissed(screen, 0, 0, 0, 1, 1);
        Checks.sameMissed(screen, 1, 19, 0, 1, 1);
        Checks.sameMissed(screen, 2, 0, 9, 1, 1);
        Checks.sameMissed(screen, 3, 10, 4, 5, 2);
        Checks.sameMissed(screen, 4, 19, 9, 1, 1);
        Checks.sameMissed(screen, 5, 5, 9, 1, 1);
        Checks.noMissed(screen, 6);
        FrameSwapper eight = withBoxes(new int[][] {{0, 0, 1, 1}, {19, 0, 1, 1}, {0, 9, 1, 1}, {10, 4, 2, 2},
            {19, 9, 1, 1}, {5, 9, 1, 1}, {12, 5, 3, 1}, {2, 9, 1, 1}});
        Checks.sameMissed(eight, 0, 0, 0, 1, 1);
        Checks.sameMissed(eight, 1, 19, 0, 1, 1);
        Checks.sameMissed(eight, 2, 0, 9, 3, 1);
        Checks.sameMissed(eight, 3, 10, 4, 5, 2);
        Checks.sameMissed(eight, 4, 19, 9, 1, 1);
        Checks.sameMissed(eight, 5, 5, 9, 1, 1);
        Checks.noMissed(eight, 6);
    }

    private static void overlappingAreJoinedFirst() {
        // The hull less both is 30 - 16 - 16 for the two that overlap, and 0 for the two that touch.
        FrameSwapper screen = withBoxes(new int[][] {{0, 0, 1, 1}, {1, 0, 1, 1}, {10, 0, 4, 4}, {12, 1, 4, 4},
            {0, 9, 1, 1}, {19, 9, 1, 1}, {9, 9, 1, 1}});
        Checks.sameMissed(screen, 0, 0, 0, 1, 1);
        Checks.sameMissed(screen, 1, 1, 0, 1, 1);
        Checks.sameMissed(screen, 2, 10, 0, 6, 5);
        Checks.sameMissed(screen, 3, 0, 9, 1, 1);
        Checks.sameMissed(screen, 4, 19, 9, 1, 1);
        Checks.sameMissed(screen, 5, 9, 9, 1, 1);
    }

    private static void firstOfEqualPairs() {
        // Joining costs 0 for pairs 1-5, 1-6, 2-3 and 2-4: the first by its first place, then by its second.
        FrameSwapper screen = withBoxes(new int[][] {{0, 0, 1, 1}, {10, 5, 1, 1}, {4, 4, 1, 1}, {4, 5, 1, 1},
            {5, 4, 1, 1}, {11, 5, 1, 1}, {10, 6, 1, 1}});
        Checks.sameMissed(screen, 0, 0, 0, 1, 1);
        Checks.sameMissed(screen, 1, 10, 5, 2, 1);
        Checks.sameMissed(screen, 2, 4, 4, 1, 1);
        Checks.sameMissed(screen, 3, 4, 5, 1, 1);
        Checks.sameMissed(screen, 4, 5, 4, 1, 1);
        Checks.sameMissed(screen, 5, 10, 6, 1, 1);
    }

    private static void planesFromAbove() {
        FrameSwapper screen = new FrameSwapper();
        int[] orders = {4, 4, 9, 3};
        for (int order : orders) {
            int s = Checks.patch(screen, 0, 2, 2, 9);
            screen.place(s, 3 * s, 0, order, 16, true);
        }
        screen.commit(0);
        Checks.same("plane(0) before the composer began", screen.plane(0), -1);
        // Surfaces 0 and 3 are left in memory.
        Checks.same("steps", screen.draw(200), 4);
        Checks.same("plane(0)", screen.plane(0), 2);
        Checks.same("plane(1)", screen.plane(1), 1);
        int[] none = {-1, 2, Integer.MIN_VALUE, Integer.MAX_VALUE};
        for (int i : none) {
            Checks.same("plane(" + i + ")", screen.plane(i), -1);
        }
        screen.destroy(2);
        screen.commit(0);
        Checks.same("plane(0) until it begins again", screen.plane(0), 2);
        Checks.frame(screen);
        Checks.same("plane(0) until it begins again", screen.plane(0), 2);
        screen.draw(1);
        Checks.same("plane(0)", screen.plane(0), 1);
        Checks.same("plane(1)", screen.plane(1), 0);
    }

    /** Which surface is given plane 0 when surface 0 is as told, and surface 1, above it, has a corner at 10, 5. */
    private static int planeOf(int x, int y, int columns, int rows, int alpha, boolean visible, boolean cover) {
        FrameSwapper screen = new FrameSwapper();
        Checks.patch(screen, 0, columns, rows, 9);
        screen.place(0, x, y, 0, alpha, visible);
        Checks.patch(screen, 1, 3, 3, 9);
        screen.place(1, 10, 5, 1, 0, cover);
        screen.commit(0);
        screen.commit(1);
        screen.draw(200);
        Checks.same("plane(1)", screen.plane(1), -1);
        return screen.plane(0);
    }

    private static void planesNeedAllOfIt() {
        Checks.same("24 pixels", planeOf(0, 0, 6, 4, 16, true, false), 0);
        Checks.same("25 pixels", planeOf(0, 0, 5, 5, 16, true, false), -1);
        Checks.same("24 of 30 pixels on the screen", planeOf(-1, 0, 5, 6, 16, true, false), 0);
        Checks.same("alpha 15", planeOf(0, 0, 6, 4, 15, true, false), -1);
        Checks.same("not visible", planeOf(0, 0, 6, 4, 16, false, false), -1);
        Checks.same("not on the screen", planeOf(20, 0, 6, 4, 16, true, false), -1);
        Checks.same("beside the one above", planeOf(4, 5, 6, 4, 16, true, true), 0);
        Checks.same("meets one of alpha 0 above", planeOf(5, 5, 6, 4, 16, true, true), -1);
        Checks.same("meets one that isn't visible", planeOf(5, 5, 6, 4, 16, true, false), 0);
        Checks.same("upon the one above", planeOf(10, 1, 6, 4, 16, true, true), 0);
    }

    private static void planeAndMemoryChange() {
        FrameSwapper screen = new FrameSwapper();
        Checks.patch(screen, 0, 4, 4, 9);
        screen.place(0, 2, 2, 0, 16, true);
        screen.commit(0);
        Checks.same("in a plane, nothing to draw", screen.draw(200), 0);
        Checks.frame(screen);
        Checks.patch(screen, 1, 5, 5, 0);
        screen.place(1, 5, 5, 1, 16, true);
        screen.commit(1);
        // Client 0 hasn't committed, but its surface goes from the plane to memory.
        Checks.same("draw(1)", screen.draw(1), 1);
        Checks.same("plane(0)", screen.plane(0), -1);
        Checks.sameMissed(screen, 0, 2, 2, 4, 4);
        Checks.sameMissed(screen, 1, 5, 5, 5, 5);
        Checks.same("steps", screen.draw(200), 5);
        Checks.frame(screen);
        screen.place(1, 6, 5, 1, 16, true);
        screen.commit(1);
        // And back into the plane: what memory showed is missed.
        Checks.same("draw(1)", screen.draw(1), 1);
        Checks.same("plane(0)", screen.plane(0), 0);
        Checks.sameMissed(screen, 0, 2, 2, 4, 4);
        Checks.sameMissed(screen, 1, 5, 5, 5, 5);
        Checks.sameMissed(screen, 2, 6, 5, 5, 5);
        Checks.noMissed(screen, 3);
        Checks.same("steps without the surface in the plane", screen.draw(200), 4);
    }

    private static void whatAPlaneShowedIsNotMissed() {
        FrameSwapper screen = new FrameSwapper();
        Checks.patch(screen, 0, 4, 4, 9);
        screen.place(0, 2, 2, 0, 16, true);
        screen.commit(0);
        Checks.show(screen);
        screen.place(0, 12, 2, 0, 15, true);
        screen.commit(0);
        screen.draw(1);
        Checks.sameMissed(screen, 0, 12, 2, 4, 4);
        Checks.noMissed(screen, 1);
        screen.draw(200);
        Checks.frame(screen);
        screen.place(0, 2, 2, 0, 16, true);
        screen.commit(0);
        Checks.same("what memory showed becomes 0", screen.draw(200), 1);
        Checks.frame(screen);
        Checks.sameMissed(screen, 0, 12, 2, 4, 4);
        Checks.noMissed(screen, 1);
    }

    private static void missedAnswersNone() {
        FrameSwapper screen = withBoxes(new int[][] {{2, 3, 5, 5}});
        int[] indices = {-1, 1, 6, 7, Integer.MIN_VALUE, Integer.MAX_VALUE};
        for (int i : indices) {
            Checks.noMissed(screen, i);
        }
        int[] whats = {-1, 4, Integer.MIN_VALUE, Integer.MAX_VALUE};
        for (int what : whats) {
            Checks.same("missed(0, " + what + ")", screen.missed(0, what), -1);
        }
    }
}

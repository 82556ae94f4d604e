/** Promises 11, 13 and 15: scan, seen, count. */
public final class ScanTest {
    public static void main(String[] args) {
        rowsAndTheGap();
        seenOneFrameLater();
        readyWithinAFrame();
        notReadyIsNotSwapped();
        planesAreSetInTheGap();
        planesWaitForMemory();
        planesKeepTheirPixels();
        planesOutliveTheirSurface();
        countsOfCommits();
        noneForOthers();
        Checks.end();
    }

    private static void rowsAndTheGap() {
        FrameSwapper screen = new FrameSwapper();
        for (int frames = 0; frames < 3; frames++) {
            for (int row = 0; row < 10; row++) {
                Checks.same("scan", screen.scan(), row);
                Checks.same("count(0)", screen.count(0), frames);
            }
            Checks.same("the gap", screen.scan(), -1);
            Checks.same("count(0)", screen.count(0), frames + 1);
        }
    }

    private static FrameSwapper withShown(int columns, int rows) {
        FrameSwapper screen = new FrameSwapper();
        int s = Checks.patch(screen, 0, columns, rows, 9);
        screen.place(s, 0, 0, 0, 16, true);
        screen.commit(0);
        return screen;
    }

    private static void seenOneFrameLater() {
        FrameSwapper screen = withShown(5, 8);
        Checks.same("wanted", screen.wanted(4, 7), 9);
        screen.draw(200);
        Checks.same("seen before the gap", screen.seen(4, 7), 0);
        Checks.frame(screen);
        Checks.same("seen after the first gap", screen.seen(4, 7), 0);
        Checks.same("state", screen.state(), 0);
        for (int row = 0; row < 10; row++) {
            screen.scan();
        }
        Checks.same("seen while the frame is scanned", screen.seen(0, 0), 0);
        screen.scan();
        Checks.same("seen after the second gap", screen.seen(4, 7), 9);
        Checks.same("seen after the second gap", screen.seen(0, 0), 9);
        Checks.same("beside it", screen.seen(5, 7), 0);
        Checks.same("below it", screen.seen(4, 8), 0);
    }

    private static void readyWithinAFrame() {
        FrameSwapper screen = withShown(5, 8);
        for (int row = 0; row < 4; row++) {
            screen.scan();
        }
        screen.draw(200);
        Checks.same("state", screen.state(), 2);
        Checks.frame(screen);
        Checks.same("state", screen.state(), 0);
        for (int y = 0; y < 8; y++) {
            Checks.same("no row shows it", screen.seen(0, y), 0);
        }
        Checks.frame(screen);
        for (int y = 0; y < 8; y++) {
            Checks.same("all rows show it", screen.seen(0, y), 9);
        }
    }

    private static void notReadyIsNotSwapped() {
        FrameSwapper screen = withShown(5, 8);
        screen.draw(1);
        Checks.frame(screen);
        Checks.frame(screen);
        Checks.same("state", screen.state(), 1);
        Checks.same("seen", screen.seen(0, 0), 0);
        Checks.same("count(1)", screen.count(1), 0);
        Checks.same("the last step", screen.draw(200), 1);
        Checks.frame(screen);
        Checks.same("state", screen.state(), 0);
        Checks.frame(screen);
        Checks.same("seen", screen.seen(0, 0), 9);
        Checks.frame(screen);
        Checks.same("the same memory is scanned on", screen.seen(0, 0), 9);
    }

    private static void planesAreSetInTheGap() {
        FrameSwapper screen = withShown(2, 2);
        Checks.same("steps", screen.draw(200), 0);
        Checks.same("plane(0)", screen.plane(0), 0);
        Checks.frame(screen);
        Checks.same("seen", screen.seen(1, 1), 0);
        screen.place(0, 18, 8, 0, 16, true);
        screen.commit(0);
        screen.draw(200);
        Checks.frame(screen);
        Checks.same("seen where it was", screen.seen(1, 1), 9);
        Checks.same("seen where it goes", screen.seen(19, 9), 0);
        Checks.frame(screen);
        Checks.same("seen where it was", screen.seen(1, 1), 0);
        Checks.same("seen where it goes", screen.seen(19, 9), 9);
    }

    private static void planesWaitForMemory() {
        FrameSwapper screen = withShown(2, 2);
        Checks.show(screen);
        Checks.same("seen in the plane", screen.seen(1, 1), 9);
        screen.place(0, 0, 0, 0, 15, true);
        screen.surface(0, 1, 1);
        screen.put(1, 0, 0, 33);
        screen.place(1, 5, 5, 1, 16, true);
        screen.commit(0);
        Checks.same("a step of two", screen.draw(1), 1);
        Checks.same("the plane is given to another one", screen.plane(0), 1);
        Checks.frame(screen);
        Checks.frame(screen);
        Checks.same("seen as it was", screen.seen(1, 1), 9);
        Checks.same("not seen yet", screen.seen(5, 5), 0);
        screen.draw(1);
        Checks.frame(screen);
        Checks.same("seen as it was", screen.seen(1, 1), 9);
        Checks.frame(screen);
        Checks.same("seen from memory", screen.seen(1, 1), 8);
        Checks.same("seen in the plane", screen.seen(5, 5), 33);
        screen.place(1, 5, 5, 1, 16, false);
        screen.commit(0);
        Checks.show(screen);
        Checks.same("the plane is given to none", screen.plane(0), -1);
        Checks.same("seen no longer", screen.seen(5, 5), 0);
    }

    private static void planesKeepTheirPixels() {
        FrameSwapper screen = withShown(3, 2);
        for (int i = 0; i < 6; i++) {
            screen.put(0, i % 3, i / 3, 100 + i);
        }
        screen.place(0, 5, -1, 3, 16, true);
        screen.clip(0, 1, 0, 2, 2);
        screen.commit(0);
        Checks.show(screen);
        Checks.same("seen(5, 0)", screen.seen(5, 0), 0);
        Checks.same("seen(6, 0)", screen.seen(6, 0), 104);
        Checks.same("seen(7, 0)", screen.seen(7, 0), 105);
        Checks.same("seen(6, 1)", screen.seen(6, 1), 0);
        screen.fill(0, 0, 0, 3, 2, 7);
        screen.commit(0);
        screen.draw(200);
        Checks.frame(screen);
        Checks.same("seen as it was chosen", screen.seen(6, 0), 104);
        screen.fill(0, 0, 0, 3, 2, 8);
        screen.commit(0);
        Checks.frame(screen);
        Checks.same("seen as it was chosen", screen.seen(6, 0), 7);
    }

    private static void planesOutliveTheirSurface() {
        FrameSwapper screen = withShown(3, 2);
        Checks.show(screen);
        screen.destroy(0);
        screen.commit(0);
        Checks.frame(screen);
        Checks.same("seen when its end is committed", screen.seen(2, 1), 9);
        screen.draw(200);
        Checks.same("plane(0)", screen.plane(0), -1);
        Checks.same("its number is free", Checks.patch(screen, 1, 3, 2, 44), 0);
        screen.place(0, 0, 0, 0, 16, true);
        screen.commit(1);
        Checks.frame(screen);
        Checks.same("seen until the gap behind which it isn't set", screen.seen(2, 1), 9);
        screen.draw(200);
        Checks.same("plane(0) is given to the new one", screen.plane(0), 0);
        Checks.frame(screen);
        Checks.same("neither of both", screen.seen(2, 1), 0);
        Checks.frame(screen);
        Checks.same("the new one", screen.seen(2, 1), 44);
    }

    private static void countsOfCommits() {
        FrameSwapper screen = withShown(5, 8);
        screen.commit(1);
        Checks.same("count(2) before", screen.count(2), 0);
        screen.draw(1);
        Checks.same("count(2) when taken", screen.count(2), 2);
        screen.commit(2);
        Checks.same("count(2)", screen.count(2), 2);
        screen.draw(200);
        Checks.same("count(1) before the gap", screen.count(1), 0);
        Checks.frame(screen);
        Checks.same("count(1) of the frame before", screen.count(1), 0);
        screen.draw(200);
        Checks.same("count(2)", screen.count(2), 3);
        Checks.same("count(1)", screen.count(1), 0);
        Checks.frame(screen);
        Checks.same("count(1)", screen.count(1), 2);
        Checks.frame(screen);
        Checks.same("count(1)", screen.count(1), 3);
        Checks.same("count(0)", screen.count(0), 3);
    }

    private static void noneForOthers() {
        FrameSwapper screen = new FrameSwapper();
        int[] whats = {-1, 3, Integer.MIN_VALUE, Integer.MAX_VALUE};
        for (int what : whats) {
            Checks.same("count(" + what + ")", screen.count(what), -1);
        }
        int[][] outside = {{-1, 0}, {20, 0}, {0, -1}, {0, 10}, {Integer.MIN_VALUE, 0}, {0, Integer.MAX_VALUE}};
        for (int[] o : outside) {
            Checks.same("seen(" + o[0] + ", " + o[1] + ")", screen.seen(o[0], o[1]), -1);
        }
        Checks.same("seen(19, 9)", screen.seen(19, 9), 0);
    }
}

/** Promises 9 and 14: commit, wanted. */
public final class CommitTest {
    public static void main(String[] args) {
        numbersGoOn();
        sixMayWait();
        refusedCommitsNothing();
        onlyItsClientsSurfaces();
        allAtOnce();
        colorsAreMixedByParts();
        paintedFromTheLowest();
        noPixelOutside();
        Checks.end();
    }

    private static void numbersGoOn() {
        FrameSwapper screen = new FrameSwapper();
        int[] clients = {3, 0, 0, 2, 1};
        for (int i = 0; i < clients.length; i++) {
            Checks.same("commit", screen.commit(clients[i]), i + 1);
        }
        screen.draw(1);
        Checks.same("commit", screen.commit(2), 6);
    }

    private static void sixMayWait() {
        FrameSwapper screen = new FrameSwapper();
        for (int i = 1; i <= 6; i++) {
            Checks.same("commit", screen.commit(i % 4), i);
        }
        Checks.refused("a seventh", Checks.STATE, () -> screen.commit(0));
        int[] wrong = {-1, 4, Integer.MIN_VALUE, Integer.MAX_VALUE};
        for (int client : wrong) {
            Checks.refused("commit(" + client + ")", Checks.ARGUMENT, () -> screen.commit(client));
        }
        screen.draw(0);
        Checks.refused("draw(0) takes none", Checks.STATE, () -> screen.commit(0));
        screen.draw(1);
        for (int i = 7; i <= 12; i++) {
            Checks.same("commit", screen.commit(i % 4), i);
        }
        screen.draw(200);
        Checks.refused("one that is ready takes none", Checks.STATE, () -> screen.commit(0));
        Checks.same("count(2)", screen.count(2), 6);
        Checks.frame(screen);
        Checks.refused("the gap takes none", Checks.STATE, () -> screen.commit(0));
        screen.draw(1);
        Checks.same("commit", screen.commit(0), 13);
    }

    private static void refusedCommitsNothing() {
        FrameSwapper screen = new FrameSwapper();
        int s = Checks.patch(screen, 0, 5, 5, 7);
        for (int i = 0; i < 6; i++) {
            screen.commit(1);
        }
        screen.place(s, 0, 0, 0, 16, true);
        screen.destroy(screen.surface(0, 1, 1));
        Checks.refused("commit", Checks.STATE, () -> screen.commit(0));
        Checks.same("wanted", screen.wanted(0, 0), 0);
        screen.draw(1);
        Checks.same("the destroyed one is still there", screen.free(), 274);
        Checks.same("commit", screen.commit(0), 7);
        Checks.same("wanted", screen.wanted(0, 0), 7);
    }

    private static void onlyItsClientsSurfaces() {
        FrameSwapper screen = new FrameSwapper();
        for (int client = 0; client < 4; client++) {
            int s = Checks.patch(screen, client, 1, 1, 10 + client);
            screen.place(s, client, 0, 0, 16, true);
        }
        screen.commit(2);
        int[] due = {0, 0, 12, 0};
        for (int x = 0; x < 4; x++) {
            Checks.same("wanted(" + x + ", 0)", screen.wanted(x, 0), due[x]);
        }
    }

    private static void allAtOnce() {
        FrameSwapper screen = new FrameSwapper();
        for (int i = 0; i < 3; i++) {
            int s = Checks.patch(screen, 1, 2, 2, 10 + i);
            screen.place(s, 2 * i, 0, i, 16, true);
        }
        screen.commit(1);
        screen.fill(0, 0, 0, 2, 2, 99);
        screen.place(1, 6, 6, 1, 16, true);
        screen.clip(2, 0, 0, 1, 1);
        screen.destroy(2);
        int[] before = {10, 10, 11, 11, 12, 12, 0};
        for (int x = 0; x < 7; x++) {
            Checks.same("wanted(" + x + ", 1) before", screen.wanted(x, 1), before[x]);
        }
        screen.commit(1);
        int[] after = {99, 99, 0, 0, 0, 0, 0};
        for (int x = 0; x < 7; x++) {
            Checks.same("wanted(" + x + ", 1) after", screen.wanted(x, 1), after[x]);
        }
        Checks.same("wanted(6, 6)", screen.wanted(6, 6), 11);
    }

    private static int color(int red, int green, int blue) {
        return red << 11 | green << 5 | blue;
    }

    private static void colorsAreMixedByParts() {
        for (int alpha = 0; alpha <= 16; alpha++) {
            FrameSwapper screen = new FrameSwapper();
            int below = Checks.patch(screen, 0, 1, 1, color(30, 1, 17));
            int above = Checks.patch(screen, 0, 1, 1, color(3, 63, 31));
            screen.place(below, 0, 0, 0, 16, true);
            screen.place(above, 0, 0, 1, alpha, true);
            screen.commit(0);
            int red = (alpha * 3 + (16 - alpha) * 30) / 16;
            int green = (alpha * 63 + (16 - alpha)) / 16;
            int blue = (alpha * 31 + (16 - alpha) * 17) / 16;
            Checks.same("wanted with alpha " + alpha, screen.wanted(0, 0), color(red, green, blue));
            Checks.show(screen);
            Checks.same("seen with alpha " + alpha, screen.seen(0, 0), color(red, green, blue));
        }
    }

    private static void paintedFromTheLowest() {
        FrameSwapper screen = new FrameSwapper();
        int[] orders = {5, 9, 0, 5};
        for (int order : orders) {
            int s = Checks.patch(screen, 0, 2, 1, 0);
            screen.fill(s, 0, 0, 2, 1, color(0, 0, 31 - 10 * s));
            screen.place(s, 0, 0, order, 8, true);
        }
        screen.commit(0);
        // 2, 0, 3, 1: halves of 11, 31, 1 and 21, each cut off.
        int blue = (11 / 2 + 31) / 2;
        blue = (blue + 1) / 2;
        blue = (blue + 21) / 2;
        Checks.same("wanted", screen.wanted(1, 0), blue);
        Checks.show(screen);
        Checks.same("seen", screen.seen(1, 0), blue);
    }

    private static void noPixelOutside() {
        FrameSwapper screen = new FrameSwapper();
        int[][] outside = {{-1, 0}, {20, 0}, {0, -1}, {0, 10}, {Integer.MIN_VALUE, 0}, {0, Integer.MAX_VALUE}};
        for (int[] o : outside) {
            Checks.same("wanted(" + o[0] + ", " + o[1] + ")", screen.wanted(o[0], o[1]), -1);
        }
        Checks.same("wanted(19, 9)", screen.wanted(19, 9), 0);
    }
}

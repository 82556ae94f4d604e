/** When two rectangles meet, when one lies within another one, and which two are joined. */
public final class RectanglesTest {
    public static void main(String[] args) {
        meetingGivesNoPlane();
        touchingGivesAPlane();
        planesMeetThoseInPlanesToo();
        meetingMakesAStep();
        touchingMakesNoStep();
        withinIsNotAdded();
        beyondByOneIsAdded();
        withinTwoIsAdded();
        withinAJoinedOneIsNotAdded();
        theSeventhWithinOneJoinsNone();
        aLaterOneMayHaveTheFormer();
        theSeventhIsJoined();
        theOtherOneGoes();
        hullOfTwoApart();
        firstByTheFirstPlace();
        firstByTheSecondPlace();
        leastMayBeBelowZero();
        leastMayBeOfTheFirstAndTheThird();
        pixelsCountNotSides();
        eachMemoryHasItsOwn();
        onlyTheRectangleIsRedrawn();
        Checks.end();
    }

    /** Visible surfaces of client 0, each as column, row, columns, rows; with alpha 15 no plane takes them. */
    private static FrameSwapper with(int alpha, int[]... boxes) {
        FrameSwapper screen = new FrameSwapper();
        for (int[] b : boxes) {
            int s = Checks.patch(screen, 0, b[2], b[3], 3000);
            screen.place(s, b[0], b[1], 0, alpha, true);
        }
        screen.commit(0);
        return screen;
    }

    private static int[] box(int x, int y, int columns, int rows) {
        return new int[] {x, y, columns, rows};
    }

    private static void missedAre(FrameSwapper screen, int[]... due) {
        for (int i = 0; i < due.length; i++) {
            Checks.sameMissed(screen, i, due[i][0], due[i][1], due[i][2], due[i][3]);
        }
        Checks.noMissed(screen, due.length);
    }

    private static void missesAfterBegin(int[][] boxes, int[]... due) {
        FrameSwapper screen = with(15, boxes);
        screen.draw(1);
        missedAre(screen, due);
    }

    /** Those with one pixel in common with columns 8 .. 10 and rows 4 .. 5, at its corners and within its edges. */
    private static final int[][] MEETING = {{6, 2, 3, 3}, {10, 2, 3, 3}, {6, 5, 3, 3}, {10, 5, 3, 3}, {9, 2, 1, 3},
        {9, 5, 1, 3}, {6, 4, 3, 1}, {10, 5, 3, 1}, {9, 4, 1, 1}, {8, 4, 3, 2}, {7, 3, 5, 4}, {0, 4, 9, 2}};
    /** Those that touch it at an edge or a corner. */
    private static final int[][] TOUCHING = {{5, 1, 3, 3}, {11, 1, 3, 3}, {5, 6, 3, 3}, {11, 6, 3, 3}, {8, 1, 3, 3},
        {8, 6, 3, 3}, {5, 4, 3, 2}, {11, 4, 3, 2}, {0, 4, 8, 2}};

    private static void meetingGivesNoPlane() {
        for (int[] above : MEETING) {
            FrameSwapper screen = with(16, box(8, 4, 3, 2), above);
            screen.place(1, above[0], above[1], 1, 15, true);
            screen.commit(0);
            screen.draw(200);
            Checks.same("plane(0)", screen.plane(0), -1);
        }
    }

    private static void touchingGivesAPlane() {
        for (int[] above : TOUCHING) {
            FrameSwapper screen = with(16, box(8, 4, 3, 2), above);
            screen.place(1, above[0], above[1], 1, 15, true);
            screen.commit(0);
            screen.draw(200);
            Checks.same("plane(0)", screen.plane(0), 0);
        }
    }

    private static void planesMeetThoseInPlanesToo() {
        FrameSwapper screen = with(16, box(0, 0, 2, 2), box(4, 4, 2, 2), box(5, 5, 2, 2));
        screen.draw(200);
        Checks.same("plane(0)", screen.plane(0), 2);
        Checks.same("plane(1) is not the one that meets it", screen.plane(1), 0);
        FrameSwapper apart = with(16, box(0, 0, 2, 2), box(3, 5, 2, 2), box(5, 5, 2, 2));
        apart.draw(200);
        Checks.same("plane(1) is one that touches it", apart.plane(1), 1);
    }

    /** Steps to redraw columns 8 .. 10 and rows 4 .. 5 when there is a surface of another client, taken before. */
    private static int stepsWith(int[] other) {
        FrameSwapper screen = with(15, other);
        Checks.show(screen);
        screen.commit(2);
        Checks.show(screen);
        Checks.patch(screen, 1, 3, 2, 4000);
        screen.place(1, 8, 4, 0, 15, true);
        screen.commit(1);
        return screen.draw(200);
    }

    private static void meetingMakesAStep() {
        for (int[] other : MEETING) {
            Checks.same("steps", stepsWith(other), 3);
        }
    }

    private static void touchingMakesNoStep() {
        for (int[] other : TOUCHING) {
            Checks.same("steps", stepsWith(other), 2);
        }
    }

    private static void withinIsNotAdded() {
        int[] one = box(5, 3, 6, 4);
        int[][] within = {one, box(5, 3, 1, 1), box(10, 3, 1, 1), box(5, 6, 1, 1), box(10, 6, 1, 1), box(7, 4, 2, 2),
            box(5, 3, 5, 4), box(6, 3, 5, 4), box(5, 3, 6, 3), box(5, 4, 6, 3)};
        for (int[] other : within) {
            missesAfterBegin(new int[][] {one, other}, one);
        }
    }

    private static void beyondByOneIsAdded() {
        int[] one = box(5, 3, 6, 4);
        int[][] beyond = {box(4, 3, 6, 4), box(6, 3, 6, 4), box(5, 2, 6, 4), box(5, 4, 6, 4), box(4, 3, 1, 1),
            box(11, 3, 1, 1), box(5, 2, 1, 1), box(5, 7, 1, 1), box(7, 4, 5, 1), box(7, 4, 1, 4)};
        for (int[] other : beyond) {
            missesAfterBegin(new int[][] {one, other}, one, other);
        }
    }

    private static void withinTwoIsAdded() {
        missesAfterBegin(new int[][] {box(2, 2, 4, 3), box(6, 2, 4, 3), box(5, 3, 2, 1)}, box(2, 2, 4, 3),
            box(6, 2, 4, 3), box(5, 3, 2, 1));
    }

    private static void withinAJoinedOneIsNotAdded() {
        int[][] boxes = {box(0, 0, 1, 1), box(2, 0, 1, 1), box(19, 0, 1, 1), box(0, 9, 1, 1), box(9, 9, 1, 1),
            box(19, 9, 1, 1), box(10, 4, 1, 1), box(1, 0, 1, 1), box(1, 0, 2, 1)};
        missesAfterBegin(boxes, box(0, 0, 3, 1), box(19, 0, 1, 1), box(0, 9, 1, 1), box(9, 9, 1, 1), box(19, 9, 1, 1),
            box(10, 4, 1, 1));
    }

    private static void theSeventhWithinOneJoinsNone() {
        int[][] boxes = {box(0, 0, 1, 1), box(1, 0, 1, 1), box(19, 0, 1, 1), box(0, 9, 1, 1), box(9, 9, 1, 1),
            box(17, 8, 3, 2), box(18, 8, 2, 2)};
        missesAfterBegin(boxes, box(0, 0, 1, 1), box(1, 0, 1, 1), box(19, 0, 1, 1), box(0, 9, 1, 1), box(9, 9, 1, 1),
            box(17, 8, 3, 2));
    }

    /** Only what is to be added is looked at: those that lie within it stay. */
    private static void aLaterOneMayHaveTheFormer() {
        missesAfterBegin(new int[][] {box(7, 4, 2, 2), box(5, 3, 6, 4)}, box(7, 4, 2, 2), box(5, 3, 6, 4));
    }

    private static void theSeventhIsJoined() {
        int[][] boxes = {box(0, 0, 1, 1), box(8, 0, 1, 1), box(19, 0, 1, 1), box(0, 9, 1, 1), box(8, 9, 1, 1),
            box(19, 9, 1, 1), box(18, 0, 1, 1)};
        missesAfterBegin(boxes, box(0, 0, 1, 1), box(8, 0, 1, 1), box(18, 0, 2, 1), box(0, 9, 1, 1), box(8, 9, 1, 1),
            box(19, 9, 1, 1));
    }

    private static void theOtherOneGoes() {
        int[][] boxes = {box(0, 0, 1, 1), box(8, 0, 2, 2), box(19, 0, 1, 1), box(8, 2, 2, 3), box(8, 9, 1, 1),
            box(19, 9, 1, 1), box(0, 9, 1, 1)};
        missesAfterBegin(boxes, box(0, 0, 1, 1), box(8, 0, 2, 5), box(19, 0, 1, 1), box(8, 9, 1, 1), box(19, 9, 1, 1),
            box(0, 9, 1, 1));
    }

    private static void hullOfTwoApart() {
        // The hull of the first and the last has 3 by 2 pixels, 4 more than both; the next best has 8 more.
        int[][] boxes = {box(2, 1, 1, 1), box(19, 0, 1, 1), box(0, 9, 1, 1), box(9, 9, 1, 1), box(19, 9, 1, 1),
            box(12, 4, 1, 1), box(0, 0, 1, 1)};
        missesAfterBegin(boxes, box(0, 0, 3, 2), box(19, 0, 1, 1), box(0, 9, 1, 1), box(9, 9, 1, 1), box(19, 9, 1, 1),
            box(12, 4, 1, 1));
    }

    private static void firstByTheFirstPlace() {
        // Joining 1 with 6 costs as little as 2 with 3.
        int[][] boxes = {box(0, 0, 1, 1), box(10, 5, 1, 1), box(19, 0, 1, 1), box(18, 0, 1, 1), box(0, 9, 1, 1),
            box(19, 9, 1, 1), box(10, 6, 1, 1)};
        missesAfterBegin(boxes, box(0, 0, 1, 1), box(10, 5, 1, 2), box(19, 0, 1, 1), box(18, 0, 1, 1), box(0, 9, 1, 1),
            box(19, 9, 1, 1));
    }

    private static void firstByTheSecondPlace() {
        // Joining 1 with 3, with 4 and with 6 costs the same.
        int[][] boxes = {box(0, 0, 1, 1), box(10, 5, 1, 1), box(19, 0, 1, 1), box(9, 5, 1, 1), box(11, 5, 1, 1),
            box(19, 9, 1, 1), box(10, 6, 1, 1)};
        missesAfterBegin(boxes, box(0, 0, 1, 1), box(9, 5, 2, 1), box(19, 0, 1, 1), box(11, 5, 1, 1), box(19, 9, 1, 1),
            box(10, 6, 1, 1));
    }

    private static void leastMayBeBelowZero() {
        // Those that overlap: 5 by 4 less 12 and 12; those that touch: 0.
        int[][] boxes = {box(0, 0, 1, 1), box(1, 0, 1, 1), box(19, 0, 1, 1), box(8, 4, 4, 3), box(0, 9, 1, 1),
            box(19, 9, 1, 1), box(9, 5, 4, 3)};
        missesAfterBegin(boxes, box(0, 0, 1, 1), box(1, 0, 1, 1), box(19, 0, 1, 1), box(8, 4, 5, 4), box(0, 9, 1, 1),
            box(19, 9, 1, 1));
    }

    private static void leastMayBeOfTheFirstAndTheThird() {
        int[][] boxes = {box(0, 0, 1, 1), box(19, 0, 1, 1), box(1, 0, 1, 1), box(9, 4, 1, 1), box(0, 9, 1, 1),
            box(19, 9, 1, 1), box(9, 9, 1, 1)};
        missesAfterBegin(boxes, box(0, 0, 2, 1), box(19, 0, 1, 1), box(9, 4, 1, 1), box(0, 9, 1, 1), box(19, 9, 1, 1),
            box(9, 9, 1, 1));
    }

    /** Wide ones and tall ones, that reach beyond one another on either side. */
    private static void pixelsCountNotSides() {
        int[] single = box(19, 8, 1, 1);
        int[] other = box(9, 9, 1, 1);
        int[] third = box(13, 0, 1, 1);
        // 3 by 9 less 12 is 15 for the tall ones; 12 by 2 less 16 is 8 for the wide ones.
        int[][] tall = {box(0, 0, 1, 6), box(2, 3, 1, 6)};
        int[][] wide = {box(4, 4, 8, 1), box(8, 5, 8, 1)};
        for (int way = 0; way < 4; way++) {
            int[][] boxes = {tall[way % 2], wide[way / 2], single, tall[1 - way % 2], other, third, wide[1 - way / 2]};
            missesAfterBegin(boxes, boxes[0], box(4, 4, 12, 2), single, boxes[3], other, third);
        }
        // With a row between them, 12 by 3 less 16 is 20: now the tall ones are nearer.
        wide[1] = box(8, 6, 8, 1);
        for (int way = 0; way < 4; way++) {
            int[][] boxes = {tall[way % 2], wide[way / 2], single, tall[1 - way % 2], other, third, wide[1 - way / 2]};
            missesAfterBegin(boxes, box(0, 0, 3, 9), boxes[1], single, other, third, boxes[6]);
        }
    }

    private static void eachMemoryHasItsOwn() {
        FrameSwapper screen = with(15, box(0, 0, 1, 1), box(19, 0, 1, 1), box(0, 9, 1, 1), box(19, 9, 1, 1));
        screen.draw(200);
        Checks.noMissed(screen, 0);
        Checks.frame(screen);
        int[][] later = {{4, 4, 1, 1}, {8, 4, 1, 1}, {12, 4, 1, 1}};
        for (int[] b : later) {
            int s = Checks.patch(screen, 1, b[2], b[3], 3000);
            screen.place(s, b[0], b[1], 0, 15, true);
        }
        screen.commit(1);
        screen.draw(1);
        // This one missed the first four already: the seventh made two of them one.
        missedAre(screen, box(0, 0, 1, 1), box(19, 0, 1, 1), box(0, 9, 1, 1), box(19, 9, 1, 1), box(4, 4, 5, 1),
            box(12, 4, 1, 1));
        screen.draw(200);
        Checks.frame(screen);
        missedAre(screen, box(4, 4, 1, 1), box(8, 4, 1, 1), box(12, 4, 1, 1));
    }

    /** What is half there, over something else, must be painted once: within the rectangle anew, beyond it not again. */
    private static void onlyTheRectangleIsRedrawn() {
        int[][] steps = {{4, 3}, {5, 4}, {8, 2}, {0, 0}, {11, 5}, {6, 6}, {16, 3}, {1, 6}};
        for (int many = 1; many <= steps.length; many++) {
            FrameSwapper seen = new FrameSwapper();
            FrameSwapper wanted = new FrameSwapper();
            for (FrameSwapper screen : new FrameSwapper[] {seen, wanted}) {
                int below = Checks.patch(screen, 0, 12, 8, 65535);
                screen.place(below, 2, 1, 0, 16, true);
                int half = Checks.patch(screen, 1, 12, 8, 31);
                screen.place(half, 5, 2, 1, 8, true);
                screen.commit(0);
                screen.commit(1);
                int above = Checks.patch(screen, 2, 5, 3, 2016);
                for (int i = 0; i < many; i++) {
                    Checks.show(screen);
                    screen.place(above, steps[i][0], steps[i][1], 2, 5, true);
                    screen.commit(2);
                }
            }
            Checks.show(seen);
            for (int i = 0; i < 200; i++) {
                Checks.same("seen, pixel " + i, seen.seen(i % 20, i / 20), wanted.wanted(i % 20, i / 20));
            }
        }
    }
}

/** Promises 2, 3 and 18: surface, destroy, free. */
public final class SurfaceTest {
    public static void main(String[] args) {
        lowestNumberIsGiven();
        sizesAndClientsAreLimited();
        tenAreTheMost();
        pixelsAreLimited();
        argumentsComeBeforeState();
        nothingIsCommittedAtFirst();
        destroyedIsFreeOnlyWhenTaken();
        anotherClientsCommitFreesNothing();
        aCommitBeforeDestroyFreesNothing();
        destroyedStaysWantedUntilCommitted();
        aNumberUsedAgainIsNew();
        destroyRefuses();
        Checks.end();
    }

    private static void lowestNumberIsGiven() {
        FrameSwapper screen = new FrameSwapper();
        for (int s = 0; s < 4; s++) {
            Checks.same("surface", screen.surface(s, 2, 3), s);
        }
        Checks.same("free", screen.free(), 276);
        screen.destroy(2);
        screen.destroy(1);
        Checks.same("surface while both are still there", screen.surface(0, 1, 1), 4);
        screen.commit(1);
        screen.commit(2);
        screen.draw(1);
        Checks.same("free", screen.free(), 287);
        Checks.same("surface", screen.surface(0, 1, 1), 1);
        Checks.same("surface", screen.surface(0, 1, 1), 2);
        Checks.same("surface", screen.surface(0, 1, 1), 5);
    }

    private static void sizesAndClientsAreLimited() {
        FrameSwapper screen = new FrameSwapper();
        int[][] wrong = {{-1, 1, 1}, {4, 1, 1}, {0, 0, 1}, {0, 13, 1}, {0, 1, 0}, {0, 1, 9}, {0, -1, -1},
            {Integer.MIN_VALUE, 1, 1}, {0, Integer.MAX_VALUE, 1}, {0, 65536, 65536}};
        for (int[] w : wrong) {
            Checks.refused("surface(" + w[0] + ", " + w[1] + ", " + w[2] + ")", Checks.ARGUMENT,
                () -> screen.surface(w[0], w[1], w[2]));
        }
        Checks.same("free", screen.free(), 300);
        Checks.same("the greatest", screen.surface(0, 12, 8), 0);
        Checks.same("free", screen.free(), 204);
        Checks.same("the least", screen.surface(3, 1, 1), 1);
        Checks.same("free", screen.free(), 203);
    }

    private static void tenAreTheMost() {
        FrameSwapper screen = new FrameSwapper();
        for (int s = 0; s < 10; s++) {
            Checks.same("surface", screen.surface(s % 4, 1, 1), s);
        }
        Checks.refused("an eleventh", Checks.STATE, () -> screen.surface(0, 1, 1));
        screen.destroy(7);
        Checks.refused("while a destroyed one is there", Checks.STATE, () -> screen.surface(0, 1, 1));
        screen.commit(3);
        Checks.refused("before that is taken", Checks.STATE, () -> screen.surface(0, 1, 1));
        Checks.same("free", screen.free(), 290);
        screen.draw(1);
        Checks.same("free", screen.free(), 291);
        Checks.same("surface", screen.surface(0, 1, 1), 7);
    }

    private static void pixelsAreLimited() {
        FrameSwapper screen = new FrameSwapper();
        screen.surface(0, 12, 8);
        screen.surface(0, 12, 8);
        screen.surface(0, 12, 8);
        screen.surface(0, 5, 1);
        Checks.same("free", screen.free(), 7);
        Checks.refused("one pixel too many", Checks.STATE, () -> screen.surface(0, 8, 1));
        Checks.same("free", screen.free(), 7);
        Checks.same("all that is left", screen.surface(0, 7, 1), 4);
        Checks.same("free", screen.free(), 0);
        Checks.refused("one more pixel", Checks.STATE, () -> screen.surface(0, 1, 1));
    }

    private static void argumentsComeBeforeState() {
        FrameSwapper screen = new FrameSwapper();
        for (int s = 0; s < 10; s++) {
            screen.surface(0, 1, 1);
        }
        Checks.refused("a wrong client when ten are there", Checks.ARGUMENT, () -> screen.surface(4, 1, 1));
        Checks.refused("a wrong size when ten are there", Checks.ARGUMENT, () -> screen.surface(0, 1, 9));
    }

    private static void nothingIsCommittedAtFirst() {
        FrameSwapper screen = new FrameSwapper();
        screen.commit(0);
        int s = Checks.patch(screen, 0, 3, 3, 9);
        screen.place(s, 0, 0, 0, 16, true);
        Checks.same("wanted", screen.wanted(0, 0), 0);
        screen.draw(200);
        Checks.same("plane(0)", screen.plane(0), -1);
    }

    private static void destroyedIsFreeOnlyWhenTaken() {
        FrameSwapper screen = new FrameSwapper();
        int s = screen.surface(2, 5, 5);
        screen.destroy(s);
        Checks.same("free after destroy", screen.free(), 275);
        screen.commit(2);
        Checks.same("free after commit", screen.free(), 275);
        screen.draw(0);
        Checks.same("free after draw(0)", screen.free(), 275);
        screen.draw(1);
        Checks.same("free when taken", screen.free(), 300);
    }

    private static void anotherClientsCommitFreesNothing() {
        FrameSwapper screen = new FrameSwapper();
        int s = screen.surface(2, 5, 5);
        screen.destroy(s);
        screen.commit(1);
        screen.draw(1);
        Checks.same("free", screen.free(), 275);
        Checks.same("the next number", screen.surface(2, 1, 1), 1);
    }

    private static void aCommitBeforeDestroyFreesNothing() {
        FrameSwapper screen = new FrameSwapper();
        int s = screen.surface(2, 5, 5);
        screen.commit(2);
        screen.destroy(s);
        screen.draw(1);
        Checks.same("free", screen.free(), 275);
        Checks.frame(screen);
        screen.commit(2);
        Checks.same("free", screen.free(), 275);
        screen.draw(1);
        Checks.same("free", screen.free(), 300);
    }

    private static void destroyedStaysWantedUntilCommitted() {
        FrameSwapper screen = new FrameSwapper();
        int s = Checks.patch(screen, 1, 6, 5, 500);
        screen.place(s, 3, 3, 0, 16, true);
        screen.commit(1);
        Checks.show(screen);
        screen.destroy(s);
        screen.commit(0);
        Checks.same("wanted", screen.wanted(3, 3), 500);
        Checks.show(screen);
        Checks.same("seen", screen.seen(3, 3), 500);
        screen.commit(1);
        Checks.same("wanted", screen.wanted(3, 3), 0);
        Checks.same("its rectangle is redrawn in one step", screen.draw(200), 1);
        Checks.frame(screen);
        Checks.same("seen", screen.seen(3, 3), 500);
        Checks.frame(screen);
        Checks.same("seen", screen.seen(3, 3), 0);
        Checks.sameMissed(screen, 0, 3, 3, 6, 5);
    }

    private static void aNumberUsedAgainIsNew() {
        FrameSwapper screen = new FrameSwapper();
        int s = Checks.patch(screen, 1, 12, 8, 500);
        screen.place(s, 3, 3, 7, 3, true);
        screen.clip(s, 0, 0, 1, 1);
        screen.commit(1);
        screen.destroy(s);
        screen.commit(1);
        Checks.show(screen);
        Checks.same("surface", screen.surface(0, 2, 2), 0);
        Checks.same("wanted", screen.wanted(3, 3), 0);
        screen.put(0, 0, 0, 8);
        screen.commit(0);
        Checks.same("wanted, not visible", screen.wanted(0, 0), 0);
        Checks.same("wanted, not visible", screen.wanted(3, 3), 0);
        screen.place(0, 0, 0, 0, 16, true);
        screen.commit(0);
        Checks.same("wanted", screen.wanted(0, 0), 8);
        Checks.same("wanted, pixels 0", screen.wanted(1, 0), 0);
        screen.fill(0, 0, 0, 2, 2, 9);
        screen.commit(0);
        Checks.same("wanted, all of it in the clip", screen.wanted(1, 1), 9);
    }

    private static void destroyRefuses() {
        FrameSwapper screen = new FrameSwapper();
        screen.surface(0, 2, 2);
        int[] wrong = {-1, 1, 9, 10, Integer.MIN_VALUE, Integer.MAX_VALUE};
        for (int s : wrong) {
            Checks.refused("destroy(" + s + ")", Checks.ARGUMENT, () -> screen.destroy(s));
        }
        screen.destroy(0);
        Checks.refused("destroy twice", Checks.ARGUMENT, () -> screen.destroy(0));
        screen.commit(0);
        Checks.refused("destroy after the commit", Checks.ARGUMENT, () -> screen.destroy(0));
        screen.draw(1);
        Checks.refused("destroy when it has gone", Checks.ARGUMENT, () -> screen.destroy(0));
        Checks.same("free", screen.free(), 300);
    }
}

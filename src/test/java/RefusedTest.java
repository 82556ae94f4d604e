import java.util.Arrays;
import java.util.List;

/**
 * "What is refused by an exception changes nothing; the first one that holds, in the order in which they are named,
 * is thrown": of each call that refuses, in each state that the composer and the scan may have.
 */
public final class RefusedTest {
    private record Refused(int due, String name, int... a) {
    }

    /** What any object refuses whose surfaces 0 and 1 are of client 0, with 4 by 3 and 12 by 1, and 2 is of client 1. */
    private static final Refused[] BY_ARGUMENTS = {
        new Refused(Calls.NO_ARGUMENT, "surface", -1, 1, 1),
        new Refused(Calls.NO_ARGUMENT, "surface", 4, 1, 1),
        new Refused(Calls.NO_ARGUMENT, "surface", 0, 0, 1),
        new Refused(Calls.NO_ARGUMENT, "surface", 0, 13, 1),
        new Refused(Calls.NO_ARGUMENT, "surface", 0, 1, 0),
        new Refused(Calls.NO_ARGUMENT, "surface", 0, 1, 9),
        new Refused(Calls.NO_ARGUMENT, "destroy", -1),
        new Refused(Calls.NO_ARGUMENT, "destroy", 3),
        new Refused(Calls.NO_ARGUMENT, "destroy", 10),
        new Refused(Calls.NO_ARGUMENT, "place", 3, 5, 5, 5, 5, 1),
        new Refused(Calls.NO_ARGUMENT, "place", 0, -21, 5, 5, 5, 0),
        new Refused(Calls.NO_ARGUMENT, "place", 0, 5, 31, 5, 5, 0),
        new Refused(Calls.NO_ARGUMENT, "place", 0, 5, 5, 10, 5, 0),
        new Refused(Calls.NO_ARGUMENT, "place", 0, 5, 5, 5, 17, 0),
        new Refused(Calls.NO_ARGUMENT, "clip", 3, 1, 1, 1, 1),
        new Refused(Calls.NO_ARGUMENT, "clip", 0, 31, 1, 1, 1),
        new Refused(Calls.NO_ARGUMENT, "clip", 0, 1, -21, 1, 1),
        new Refused(Calls.NO_ARGUMENT, "clip", 0, 1, 1, -1, 1),
        new Refused(Calls.NO_ARGUMENT, "clip", 0, 1, 1, 1, 31),
        new Refused(Calls.NO_ARGUMENT, "put", 3, 0, 0, 5),
        new Refused(Calls.NO_ARGUMENT, "put", 0, 0, 0, 65536),
        new Refused(Calls.NO_INDEX, "put", 0, 4, 0, 5),
        new Refused(Calls.NO_INDEX, "put", 0, -1, 1, 5),
        new Refused(Calls.NO_INDEX, "put", 0, 0, 3, 5),
        new Refused(Calls.NO_INDEX, "put", 1, 0, -1, 5),
        new Refused(Calls.NO_INDEX, "put", 1, 12, 0, 5),
        new Refused(Calls.NO_ARGUMENT, "fill", 3, 0, 0, 9, 9, 5),
        new Refused(Calls.NO_ARGUMENT, "fill", 0, 0, 0, 9, 9, -1),
        new Refused(Calls.NO_ARGUMENT, "fill", 0, -21, 0, 30, 9, 5),
        new Refused(Calls.NO_ARGUMENT, "fill", 0, 0, -21, 9, 30, 5),
        new Refused(Calls.NO_ARGUMENT, "fill", 0, 0, 0, 31, 9, 5),
        new Refused(Calls.NO_ARGUMENT, "fill", 0, 0, 0, 9, -1, 5),
        new Refused(Calls.NO_ARGUMENT, "copy", 0, 3, 0, 0, 1, 1, 0, 0),
        new Refused(Calls.NO_ARGUMENT, "copy", 3, 0, 0, 0, 1, 1, 0, 0),
        new Refused(Calls.NO_ARGUMENT, "copy", 0, 2, 0, 0, 1, 1, 0, 0),
        new Refused(Calls.NO_ARGUMENT, "copy", 2, 0, 0, 0, 0, 0, 0, 0),
        new Refused(Calls.NO_ARGUMENT, "copy", 0, 1, -21, 0, 30, 1, 0, 0),
        new Refused(Calls.NO_ARGUMENT, "copy", 0, 1, 0, 31, 1, 1, 0, 0),
        new Refused(Calls.NO_ARGUMENT, "copy", 0, 1, 0, 0, 31, 1, 0, 0),
        new Refused(Calls.NO_ARGUMENT, "copy", 0, 1, 0, 0, 1, -1, 0, 0),
        new Refused(Calls.NO_ARGUMENT, "copy", 0, 1, 1, 1, 1, 1, -21, 0),
        new Refused(Calls.NO_ARGUMENT, "copy", 0, 1, 1, 1, 1, 1, 0, 31),
        new Refused(Calls.NO_ARGUMENT, "commit", -1),
        new Refused(Calls.NO_ARGUMENT, "commit", 4),
        new Refused(Calls.NO_ARGUMENT, "draw", -1),
        new Refused(Calls.NO_ARGUMENT, "draw", 201),
    };

    public static void main(String[] args) {
        byArgumentsInEachState();
        byStateWhenTenAreThere();
        byStateWhenPixelsWouldBeTooMany();
        byStateWhenSixWait();
        whenASurfaceIsDestroyed();
        argumentsBeforeStateOfSurface();
        argumentsBeforeStateOfCommit();
        argumentsBeforeIndexOfPut();
        Checks.end();
    }

    /** Drafts that differ from what is committed and from one another in all that a call could change. */
    private static void threeSurfaces(FrameSwapper screen) {
        screen.surface(0, 4, 3);
        screen.surface(0, 12, 1);
        screen.surface(1, 6, 5);
        for (int i = 0; i < 12; i++) {
            screen.put(0, i % 4, i / 4, 100 + i);
            screen.put(1, i, 0, 65500 - 77 * i);
        }
        screen.fill(2, 1, 1, 4, 4, 31);
        screen.place(0, 2, 2, 3, 9, true);
        screen.place(1, 9, 8, 2, 16, true);
        screen.place(2, 3, 3, 1, 16, true);
        screen.clip(0, 0, 0, 3, 3);
        screen.commit(0);
        screen.commit(1);
        screen.place(0, 3, 1, 2, 11, true);
        screen.clip(0, 1, 0, 3, 2);
        screen.fill(0, 1, 1, 1, 1, 4000);
        screen.place(1, 2, 2, 5, 16, true);
        screen.place(2, 4, 0, 1, 16, true);
    }

    private static void resting(FrameSwapper screen) {
        threeSurfaces(screen);
        screen.draw(200);
        Checks.frame(screen);
        screen.commit(0);
    }

    private static void composing(FrameSwapper screen) {
        resting(screen);
        screen.draw(2);
        screen.commit(1);
        for (int row = 0; row < 4; row++) {
            screen.scan();
        }
    }

    private static void ready(FrameSwapper screen) {
        composing(screen);
        screen.draw(200);
        screen.commit(3);
    }

    private static void inTheGap(FrameSwapper screen) {
        ready(screen);
        for (int row = 4; row < 10; row++) {
            screen.scan();
        }
    }

    private static void byArgumentsInEachState() {
        Look.Run[] states = {RefusedTest::threeSurfaces, RefusedTest::resting, RefusedTest::composing,
            RefusedTest::ready, RefusedTest::inTheGap};
        int[] due = {0, 0, 1, 2, 2};
        for (int i = 0; i < states.length; i++) {
            FrameSwapper screen = new FrameSwapper();
            states[i].on(screen);
            Checks.same("state " + i + " of the test", screen.state(), due[i]);
            check(states[i], BY_ARGUMENTS);
        }
    }

    private static void check(Look.Run before, Refused... calls) {
        List<Integer> look = Look.after(before);
        for (Refused call : calls) {
            String text = call.name + Arrays.toString(call.a);
            Look.Run after = screen -> {
                before.on(screen);
                Checks.same(text, Calls.answer(screen, call.name, call.a), call.due);
            };
            Checks.same(text + " changes nothing", Look.after(after).equals(look) ? 1 : 0, 1);
        }
    }

    private static void tenSurfaces(FrameSwapper screen) {
        threeSurfaces(screen);
        for (int s = 3; s < 10; s++) {
            screen.surface(s % 4, 1, 1);
        }
    }

    private static void tenWithADestroyedOne(FrameSwapper screen) {
        tenSurfaces(screen);
        screen.destroy(0);
        screen.draw(1);
        screen.commit(0);
    }

    private static void byStateWhenTenAreThere() {
        Refused one = new Refused(Calls.NO_STATE, "surface", 0, 1, 1);
        check(RefusedTest::tenSurfaces, one);
        check(RefusedTest::tenWithADestroyedOne, one);
    }

    private static void fiveFreePixels(FrameSwapper screen) {
        threeSurfaces(screen);
        screen.surface(2, 12, 8);
        screen.surface(3, 12, 8);
        screen.surface(3, 7, 7);
    }

    private static void byStateWhenPixelsWouldBeTooMany() {
        FrameSwapper screen = new FrameSwapper();
        fiveFreePixels(screen);
        Checks.same("free", screen.free(), 5);
        check(RefusedTest::fiveFreePixels, new Refused(Calls.NO_STATE, "surface", 0, 6, 1),
            new Refused(Calls.NO_STATE, "surface", 2, 2, 3), new Refused(Calls.NO_STATE, "surface", 3, 12, 8));
    }

    private static void sixWaiting(FrameSwapper screen) {
        threeSurfaces(screen);
        screen.destroy(2);
        for (int i = 0; i < 4; i++) {
            screen.commit(2);
        }
    }

    private static void sixWaitingWhileComposing(FrameSwapper screen) {
        threeSurfaces(screen);
        screen.draw(1);
        screen.destroy(2);
        for (int i = 0; i < 6; i++) {
            screen.commit(3);
        }
    }

    private static void byStateWhenSixWait() {
        for (int client = 0; client < 4; client++) {
            Refused commit = new Refused(Calls.NO_STATE, "commit", client);
            check(RefusedTest::sixWaiting, commit);
            check(RefusedTest::sixWaitingWhileComposing, commit);
        }
    }

    private static void destroyed(FrameSwapper screen) {
        threeSurfaces(screen);
        screen.destroy(0);
    }

    private static void destroyedAndCommitted(FrameSwapper screen) {
        destroyed(screen);
        screen.commit(0);
    }

    private static void destroyedAndTaken(FrameSwapper screen) {
        destroyedAndCommitted(screen);
        screen.draw(1);
    }

    /** "There is no draft" from destroy on: before its client commits, before that is taken, and when it has gone. */
    private static void whenASurfaceIsDestroyed() {
        Refused[] calls = {
            new Refused(Calls.NO_ARGUMENT, "destroy", 0),
            new Refused(Calls.NO_ARGUMENT, "place", 0, 5, 5, 5, 5, 1),
            new Refused(Calls.NO_ARGUMENT, "clip", 0, 1, 1, 1, 1),
            new Refused(Calls.NO_ARGUMENT, "put", 0, 0, 0, 5),
            new Refused(Calls.NO_ARGUMENT, "put", 0, 4, 0, 5),
            new Refused(Calls.NO_ARGUMENT, "fill", 0, 0, 0, 9, 9, 5),
            new Refused(Calls.NO_ARGUMENT, "copy", 0, 1, 0, 0, 1, 1, 0, 0),
            new Refused(Calls.NO_ARGUMENT, "copy", 1, 0, 0, 0, 1, 1, 0, 0),
            new Refused(Calls.NO_ARGUMENT, "copy", 0, 0, 0, 0, 1, 1, 0, 0),
        };
        check(RefusedTest::destroyed, calls);
        check(RefusedTest::destroyedAndCommitted, calls);
        check(RefusedTest::destroyedAndTaken, calls);
    }

    private static void argumentsBeforeStateOfSurface() {
        Refused[] calls = {
            new Refused(Calls.NO_ARGUMENT, "surface", -1, 12, 8),
            new Refused(Calls.NO_ARGUMENT, "surface", 4, 12, 8),
            new Refused(Calls.NO_ARGUMENT, "surface", 0, 13, 8),
            new Refused(Calls.NO_ARGUMENT, "surface", 0, 12, 9),
            new Refused(Calls.NO_ARGUMENT, "surface", 0, 0, 8),
            new Refused(Calls.NO_ARGUMENT, "surface", 0, 12, 0),
            new Refused(Calls.NO_ARGUMENT, "surface", 9, 99, 99),
        };
        check(RefusedTest::tenSurfaces, calls);
        check(RefusedTest::fiveFreePixels, calls);
    }

    private static void argumentsBeforeStateOfCommit() {
        check(RefusedTest::sixWaiting, new Refused(Calls.NO_ARGUMENT, "commit", -1),
            new Refused(Calls.NO_ARGUMENT, "commit", 4));
    }

    private static void argumentsBeforeIndexOfPut() {
        check(RefusedTest::threeSurfaces, new Refused(Calls.NO_ARGUMENT, "put", 3, 99, 99, 5),
            new Refused(Calls.NO_ARGUMENT, "put", -1, -1, -1, 5), new Refused(Calls.NO_ARGUMENT, "put", 0, 4, 0, 65536),
            new Refused(Calls.NO_ARGUMENT, "put", 0, 0, 3, -1));
    }
}

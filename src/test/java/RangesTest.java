import java.util.ArrayList;
import java.util.Arrays;
import java.util.List;

/**
 * Each range that the document names, of each argument: its least and its greatest value are taken; the next ones
 * beyond, and those far beyond, are refused (or answered by NONE), and change nothing.
 */
public final class RangesTest {
    public static void main(String[] args) {
        clients();
        surfaces();
        sizes();
        colors();
        places();
        orders();
        alphas();
        columnsAndRows();
        pixelsOfASurface();
        steps();
        pixelsOfTheScreen();
        whats();
        missedOnes();
        planes();
        Checks.end();
    }

    /** Ten surfaces, of which two are in memory and two in planes, the composer at work; drafts above and below 0's. */
    private static void tenAtWork(FrameSwapper screen) {
        for (int s = 0; s < 10; s++) {
            screen.surface(0, 4, 3);
            screen.fill(s, 0, 0, 4, 3, 1000 + s);
        }
        for (int s = 0; s < 4; s++) {
            screen.place(s, 5 * s, 2, s + 1, s < 2 ? 15 : 16, true);
        }
        screen.commit(0);
        screen.draw(1);
        screen.place(4, 1, 3, 5, 16, true);
        screen.place(5, 2, 1, 0, 16, true);
        screen.scan();
    }

    private static void oneAtWork(FrameSwapper screen) {
        screen.surface(1, 5, 5);
        screen.fill(0, 0, 0, 5, 5, 77);
        screen.place(0, 3, 3, 0, 16, true);
        screen.commit(1);
        screen.draw(1);
    }

    private static void clients() {
        check(RangesTest::oneAtWork, 0, 3, Calls.NO_ARGUMENT, 0, "surface", 0, 4, 3);
        check(RangesTest::oneAtWork, 0, 3, Calls.NO_ARGUMENT, 0, "commit", 0);
    }

    private static void surfaces() {
        check(RangesTest::tenAtWork, 0, 9, Calls.NO_ARGUMENT, 0, "destroy", 0);
        check(RangesTest::tenAtWork, 0, 9, Calls.NO_ARGUMENT, 0, "place", 0, 0, 0, 0, 16, 1);
        check(RangesTest::tenAtWork, 0, 9, Calls.NO_ARGUMENT, 0, "clip", 0, 0, 0, 1, 1);
        check(RangesTest::tenAtWork, 0, 9, Calls.NO_ARGUMENT, 0, "put", 0, 0, 0, 1);
        check(RangesTest::tenAtWork, 0, 9, Calls.NO_ARGUMENT, 0, "fill", 0, 0, 0, 1, 1, 1);
        check(RangesTest::tenAtWork, 0, 9, Calls.NO_ARGUMENT, 0, "copy", 0, 0, 0, 0, 1, 1, 0, 0);
        check(RangesTest::tenAtWork, 0, 9, Calls.NO_ARGUMENT, 1, "copy", 0, 0, 0, 0, 1, 1, 0, 0);
    }

    private static void sizes() {
        check(RangesTest::oneAtWork, 1, 12, Calls.NO_ARGUMENT, 1, "surface", 0, 4, 3);
        check(RangesTest::oneAtWork, 1, 8, Calls.NO_ARGUMENT, 2, "surface", 0, 4, 3);
    }

    private static void colors() {
        check(RangesTest::tenAtWork, 0, 65535, Calls.NO_ARGUMENT, 3, "put", 0, 0, 0, 1);
        check(RangesTest::tenAtWork, 0, 65535, Calls.NO_ARGUMENT, 5, "fill", 0, 0, 0, 1, 1, 1);
        // Also where no pixel would get the color.
        check(RangesTest::tenAtWork, 0, 65535, Calls.NO_ARGUMENT, 5, "fill", 0, 0, 0, 0, 0, 1);
    }

    private static void places() {
        for (int at = 1; at <= 2; at++) {
            check(RangesTest::tenAtWork, -20, 30, Calls.NO_ARGUMENT, at, "place", 0, 0, 0, 0, 16, 1);
            check(RangesTest::tenAtWork, -20, 30, Calls.NO_ARGUMENT, at, "place", 0, 0, 0, 0, 16, 0);
            check(RangesTest::tenAtWork, -20, 30, Calls.NO_ARGUMENT, at, "clip", 0, 0, 0, 1, 1);
            check(RangesTest::tenAtWork, -20, 30, Calls.NO_ARGUMENT, at, "clip", 0, 0, 0, 0, 0);
            check(RangesTest::tenAtWork, -20, 30, Calls.NO_ARGUMENT, at, "fill", 0, 0, 0, 1, 1, 1);
            check(RangesTest::tenAtWork, -20, 30, Calls.NO_ARGUMENT, at, "fill", 0, 0, 0, 0, 0, 1);
        }
        int[] ofCopy = {2, 3, 6, 7};
        for (int at : ofCopy) {
            check(RangesTest::tenAtWork, -20, 30, Calls.NO_ARGUMENT, at, "copy", 0, 1, 0, 0, 1, 1, 0, 0);
            check(RangesTest::tenAtWork, -20, 30, Calls.NO_ARGUMENT, at, "copy", 0, 0, 0, 0, 0, 0, 0, 0);
        }
    }

    private static void orders() {
        check(RangesTest::tenAtWork, 0, 9, Calls.NO_ARGUMENT, 3, "place", 0, 0, 0, 0, 16, 1);
        check(RangesTest::tenAtWork, 0, 9, Calls.NO_ARGUMENT, 3, "place", 0, 0, 0, 0, 16, 0);
    }

    private static void alphas() {
        check(RangesTest::tenAtWork, 0, 16, Calls.NO_ARGUMENT, 4, "place", 0, 0, 0, 0, 16, 1);
        check(RangesTest::tenAtWork, 0, 16, Calls.NO_ARGUMENT, 4, "place", 0, 0, 0, 0, 16, 0);
    }

    private static void columnsAndRows() {
        for (int at = 3; at <= 4; at++) {
            check(RangesTest::tenAtWork, 0, 30, Calls.NO_ARGUMENT, at, "clip", 0, 0, 0, 1, 1);
            check(RangesTest::tenAtWork, 0, 30, Calls.NO_ARGUMENT, at, "clip", 0, 30, 30, 0, 0);
            check(RangesTest::tenAtWork, 0, 30, Calls.NO_ARGUMENT, at, "fill", 0, 0, 0, 1, 1, 1);
            check(RangesTest::tenAtWork, 0, 30, Calls.NO_ARGUMENT, at, "fill", 0, -20, -20, 0, 0, 1);
        }
        for (int at = 4; at <= 5; at++) {
            check(RangesTest::tenAtWork, 0, 30, Calls.NO_ARGUMENT, at, "copy", 0, 1, 0, 0, 1, 1, 0, 0);
            check(RangesTest::tenAtWork, 0, 30, Calls.NO_ARGUMENT, at, "copy", 0, 0, 30, 30, 0, 0, 30, 30);
        }
    }

    private static void pixelsOfASurface() {
        check(RangesTest::tenAtWork, 0, 3, Calls.NO_INDEX, 1, "put", 0, 0, 0, 1);
        check(RangesTest::tenAtWork, 0, 3, Calls.NO_INDEX, 1, "put", 0, 0, 2, 1);
        check(RangesTest::tenAtWork, 0, 2, Calls.NO_INDEX, 2, "put", 0, 0, 0, 1);
        check(RangesTest::tenAtWork, 0, 2, Calls.NO_INDEX, 2, "put", 0, 3, 0, 1);
    }

    private static void steps() {
        check(RangesTest::oneAtWork, 0, 200, Calls.NO_ARGUMENT, 0, "draw", 0);
        check(RangesTest::tenAtWork, 0, 200, Calls.NO_ARGUMENT, 0, "draw", 0);
    }

    private static void pixelsOfTheScreen() {
        for (String name : new String[] {"seen", "wanted"}) {
            check(RangesTest::tenAtWork, 0, 19, FrameSwapper.NONE, 0, name, 0, 0);
            check(RangesTest::tenAtWork, 0, 19, FrameSwapper.NONE, 0, name, 0, 9);
            check(RangesTest::tenAtWork, 0, 9, FrameSwapper.NONE, 1, name, 0, 0);
            check(RangesTest::tenAtWork, 0, 9, FrameSwapper.NONE, 1, name, 19, 0);
        }
    }

    private static void whats() {
        check(RangesTest::tenAtWork, 0, 2, FrameSwapper.NONE, 0, "count", 0);
        check(RangesTest::tenAtWork, 0, 3, FrameSwapper.NONE, 1, "missed", 0, 0);
    }

    private static void missedOnes() {
        check(RangesTest::tenAtWork, 0, 1, FrameSwapper.NONE, 0, "missed", 0, 0);
    }

    private static void planes() {
        check(RangesTest::tenAtWork, 0, 1, FrameSwapper.NONE, 0, "plane", 0);
    }

    /** Argument at of a call may be least .. most; beyond, the answer is outside. */
    private static void check(Look.Run before, int least, int most, int outside, int at, String name, int... a) {
        int[] within = {least, least + 1, most - 1, most};
        for (int value : within) {
            FrameSwapper screen = new FrameSwapper();
            before.on(screen);
            int[] with = with(a, at, value);
            Checks.same(text(name, with) + " taken", Calls.answer(screen, name, with) >= 0 ? 1 : 0, 1);
        }
        List<Integer> look = Look.after(before);
        for (int value : beyond(least, most)) {
            int[] with = with(a, at, value);
            Look.Run after = screen -> {
                before.on(screen);
                Checks.same(text(name, with), Calls.answer(screen, name, with), outside);
            };
            Checks.same(text(name, with) + " changes nothing", Look.after(after).equals(look) ? 1 : 0, 1);
        }
    }

    private static int[] with(int[] a, int at, int value) {
        int[] changed = a.clone();
        changed[at] = value;
        return changed;
    }

    private static List<Integer> beyond(int least, int most) {
        // Some differ from a right value by bits alone that a smaller type would lose.
        return new ArrayList<>(List.of(least - 1, most + 1, least - 256, most + 256, least - 65536, most + 65536,
            Integer.MIN_VALUE, Integer.MAX_VALUE, Integer.MIN_VALUE + most));
    }

    private static String text(String name, int[] a) {
        return name + Arrays.toString(a);
    }
}

/** Calls by their names, for tests that hold calls in tables or lists. */
final class Calls {
    static final int NO_ARGUMENT = -1001;
    static final int NO_STATE = -1002;
    static final int NO_INDEX = -1003;
    private static final int MISTAKE = -1004;

    interface Call {
        int make();
    }

    private Calls() {
    }

    /** What a call answers, or which exception it throws, as one number. */
    static int answer(Call call) {
        try {
            return call.make();
        } catch (RuntimeException e) {
            // Just these classes: one that is derived from them was thrown by mistake.
            return e.getClass() == IllegalArgumentException.class ? NO_ARGUMENT
                : e.getClass() == IllegalStateException.class ? NO_STATE
                : e.getClass() == IndexOutOfBoundsException.class ? NO_INDEX : MISTAKE;
        }
    }

    static int answer(FrameSwapper screen, String name, int... a) {
        return answer(() -> make(screen, name, a));
    }

    /** Makes a call; one without an answer answers 0. */
    static int make(FrameSwapper screen, String name, int... a) {
        switch (name) {
            case "surface": return screen.surface(a[0], a[1], a[2]);
            case "destroy": screen.destroy(a[0]); return 0;
            case "place": screen.place(a[0], a[1], a[2], a[3], a[4], a[5] != 0); return 0;
            case "clip": screen.clip(a[0], a[1], a[2], a[3], a[4]); return 0;
            case "put": screen.put(a[0], a[1], a[2], a[3]); return 0;
            case "fill": return screen.fill(a[0], a[1], a[2], a[3], a[4], a[5]);
            case "copy": return screen.copy(a[0], a[1], a[2], a[3], a[4], a[5], a[6], a[7]);
            case "commit": return screen.commit(a[0]);
            case "draw": return screen.draw(a[0]);
            case "scan": return screen.scan();
            case "state": return screen.state();
            case "seen": return screen.seen(a[0], a[1]);
            case "wanted": return screen.wanted(a[0], a[1]);
            case "count": return screen.count(a[0]);
            case "missed": return screen.missed(a[0], a[1]);
            case "plane": return screen.plane(a[0]);
            case "free": return screen.free();
            default: throw new UnsupportedOperationException(name);
        }
    }
}

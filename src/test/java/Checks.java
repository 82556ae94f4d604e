/** What the tests share: comparing answers, refusals, and calls that come in groups. */
final class Checks {
    static final Class<? extends RuntimeException> ARGUMENT = IllegalArgumentException.class;
    static final Class<? extends RuntimeException> STATE = IllegalStateException.class;
    static final Class<? extends RuntimeException> INDEX = IndexOutOfBoundsException.class;

    private static int wrong;

    private Checks() {
    }

    static void same(String what, long got, long due) {
        if (got != due) {
            wrong++;
            System.out.println(what + " answered " + got + ", due is " + due);
        }
    }

    static void refused(String what, Class<? extends RuntimeException> due, Runnable call) {
        Class<?> got = null;
        try {
            call.run();
        } catch (RuntimeException e) {
            got = e.getClass();
        }
        if (got != due) {
            wrong++;
            System.out.println(what + " threw " + got + ", due is " + due);
        }
    }

    /** Rectangle i of what the back memory misses, as four numbers. */
    static void sameMissed(FrameSwapper screen, int i, int x, int y, int columns, int rows) {
        same("missed(" + i + ", 0)", screen.missed(i, 0), x);
        same("missed(" + i + ", 1)", screen.missed(i, 1), y);
        same("missed(" + i + ", 2)", screen.missed(i, 2), columns);
        same("missed(" + i + ", 3)", screen.missed(i, 3), rows);
    }

    static void noMissed(FrameSwapper screen, int i) {
        sameMissed(screen, i, -1, -1, -1, -1);
    }

    /** A surface of one color, placed and visible, with nothing committed. */
    static int patch(FrameSwapper screen, int client, int columns, int rows, int color) {
        int s = screen.surface(client, columns, rows);
        screen.fill(s, 0, 0, columns, rows, color);
        return s;
    }

    /** Scans up to and with the next gap. */
    static void frame(FrameSwapper screen) {
        for (int i = 0; i < 11; i++) {
            if (screen.scan() == FrameSwapper.NONE) {
                return;
            }
        }
        same("a gap within eleven scans", 0, 1);
    }

    /** Composes what is committed and scans until it is seen, when the composer rests. */
    static void show(FrameSwapper screen) {
        screen.draw(200);
        frame(screen);
        frame(screen);
    }

    static void end() {
        System.out.println(wrong == 0 ? "all answers are as due" : wrong + " answers are not as due");
        if (wrong != 0) {
            System.exit(1);
        }
    }
}

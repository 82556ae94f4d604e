/** Promise 1: a new object. */
public final class NewObjectTest {
    public static void main(String[] args) {
        nothingIsThere();
        nothingIsSeenOrWanted();
        rowZeroIsNext();
        objectsShareNothing();
        Checks.end();
    }

    private static void nothingIsThere() {
        FrameSwapper screen = new FrameSwapper();
        Checks.same("free", screen.free(), 300);
        Checks.same("state", screen.state(), 0);
        Checks.same("draw(200) without commits", screen.draw(200), 0);
        Checks.same("state after it", screen.state(), 0);
        for (int what = 0; what < 3; what++) {
            Checks.same("count(" + what + ")", screen.count(what), 0);
        }
        for (int i = 0; i < 8; i++) {
            Checks.noMissed(screen, i);
        }
        Checks.same("plane(0)", screen.plane(0), -1);
        Checks.same("plane(1)", screen.plane(1), -1);
        for (int s = -1; s <= 10; s++) {
            int number = s;
            Checks.refused("destroy(" + s + ")", Checks.ARGUMENT, () -> screen.destroy(number));
        }
        Checks.same("the first commit", screen.commit(3), 1);
        Checks.same("the first surface", screen.surface(3, 1, 1), 0);
    }

    private static void nothingIsSeenOrWanted() {
        FrameSwapper screen = new FrameSwapper();
        for (int y = 0; y < 10; y++) {
            for (int x = 0; x < 20; x++) {
                Checks.same("seen(" + x + ", " + y + ")", screen.seen(x, y), 0);
                Checks.same("wanted(" + x + ", " + y + ")", screen.wanted(x, y), 0);
            }
        }
    }

    private static void rowZeroIsNext() {
        Checks.same("the first scan", new FrameSwapper().scan(), 0);
    }

    private static void objectsShareNothing() {
        FrameSwapper one = new FrameSwapper();
        FrameSwapper other = new FrameSwapper();
        int s = Checks.patch(one, 0, 12, 8, 77);
        one.place(s, 0, 0, 0, 16, true);
        one.commit(0);
        Checks.show(one);
        Checks.same("seen of the one", one.seen(0, 0), 77);
        Checks.same("seen of the other", other.seen(0, 0), 0);
        Checks.same("wanted of the other", other.wanted(0, 0), 0);
        Checks.same("free of the other", other.free(), 300);
        Checks.same("count(0) of the other", other.count(0), 0);
    }
}

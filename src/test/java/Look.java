import java.util.ArrayList;
import java.util.List;

/**
 * All that can be found out of an object after a run of calls. As an object has 512 calls, and some ways to find out
 * change it, each part is asked of a new object for which the run's calls were made again.
 */
final class Look {
    interface Run {
        void on(FrameSwapper screen);
    }

    private final Run run;
    private final List<Integer> answers = new ArrayList<>();

    private Look(Run run) {
        this.run = run;
    }

    static List<Integer> after(Run run) {
        Look look = new Look(run);
        look.atNumbers();
        look.atPixels();
        look.atDrafts();
        look.atWhatDraftsShow();
        look.atWhatDraftsShowOnceMore();
        look.atDraftPixels();
        look.atComing();
        return look.answers;
    }

    private FrameSwapper again() {
        FrameSwapper screen = new FrameSwapper();
        run.on(screen);
        return screen;
    }

    private void atNumbers() {
        FrameSwapper screen = again();
        askNumbers(screen);
        answers.add(screen.scan());
    }

    private void askNumbers(FrameSwapper screen) {
        answers.add(screen.state());
        answers.add(screen.free());
        for (int what = 0; what < 3; what++) {
            answers.add(screen.count(what));
        }
        answers.add(screen.plane(0));
        answers.add(screen.plane(1));
        for (int i = 0; i < 7; i++) {
            for (int what = 0; what < 4; what++) {
                answers.add(screen.missed(i, what));
            }
        }
    }

    private void atPixels() {
        FrameSwapper seen = again();
        FrameSwapper wanted = again();
        for (int i = 0; i < 200; i++) {
            answers.add(seen.seen(i % 20, i / 20));
            answers.add(wanted.wanted(i % 20, i / 20));
        }
    }

    /** Which drafts there are, with which sizes, and which are of one client; the next numbers. */
    private void atDrafts() {
        FrameSwapper screen = again();
        for (int s = 0; s < 10; s++) {
            answers.add(Calls.answer(screen, "fill", s, 0, 0, 30, 1, 0));
            answers.add(Calls.answer(screen, "fill", s, 0, 0, 1, 30, 0));
            for (int t = 0; t < 10; t++) {
                answers.add(Calls.answer(screen, "copy", s, t, 0, 0, 0, 0, 0, 0));
            }
        }
        FrameSwapper other = again();
        for (int i = 0; i < 10; i++) {
            answers.add(Calls.answer(other, "surface", 0, 1, 1));
        }
    }

    private void atWhatDraftsShow() {
        FrameSwapper screen = allCommitted(again());
        for (int i = 0; i < 200; i++) {
            answers.add(screen.wanted(i % 20, i / 20));
        }
        askNumbers(screen);
    }

    /** With new clips, which makes an object look again at whatever it keeps of a draft. */
    private void atWhatDraftsShowOnceMore() {
        FrameSwapper screen = again();
        for (int s = 0; s < 10; s++) {
            answers.add(Calls.answer(screen, "clip", s, 0, 0, 30, 30));
        }
        allCommitted(screen);
        for (int i = 0; i < 200; i++) {
            answers.add(screen.wanted(i % 20, i / 20));
        }
    }

    /** Takes what waits, so that six more may, and commits all drafts. */
    private FrameSwapper allCommitted(FrameSwapper screen) {
        for (int i = 0; i < 2; i++) {
            screen.draw(200);
            Checks.frame(screen);
        }
        screen.draw(200);
        for (int client = 0; client < 4; client++) {
            answers.add(screen.commit(client));
        }
        return screen;
    }

    private void atDraftPixels() {
        for (int s = 0; s < 10; s++) {
            FrameSwapper screen = again();
            if (Calls.answer(screen, "fill", s, 0, 0, 0, 0, 0) == 0) {
                screen.place(s, 0, 0, 9, 16, true);
                screen.clip(s, 0, 0, 30, 30);
                for (int t = 0; t < 10; t++) {
                    answers.add(t == s ? 0 : Calls.answer(screen, "clip", t, 0, 0, 0, 0));
                }
                allCommitted(screen);
                for (int i = 0; i < 96; i++) {
                    answers.add(screen.wanted(i % 12, i / 12));
                }
            }
        }
    }

    /** What the composer and the scan do from here on, step by step. */
    private void atComing() {
        FrameSwapper screen = again();
        for (int i = 0; i < 70; i++) {
            answers.add(screen.draw(1));
            answers.add(screen.state());
            answers.add(screen.scan());
        }
        FrameSwapper later = again();
        for (int i = 0; i < 3; i++) {
            answers.add(later.draw(200));
            Checks.frame(later);
        }
        askNumbers(later);
        for (int i = 0; i < 200; i++) {
            answers.add(later.seen(i % 20, i / 20));
        }
    }
}

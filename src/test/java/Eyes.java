import java.util.ArrayList;
import java.util.List;

/** Sees what there is to see of an object, call by call. */
final class Eyes {
    /** An object is used for at most so many calls. */
    static final int CALLS = 512;

    private final ShadeVotes x;
    private final List<Long> seen = new ArrayList<>();

    private Eyes(ShadeVotes x) {
        this.x = x;
    }

    /** What asking shows; nothing is changed by it. */
    static List<Long> look(ShadeVotes x) {
        Eyes eyes = new Eyes(x);
        eyes.ask();
        return eyes.seen;
    }

    /** What asking shows, then what lies under it: all that may be undone, the images, the text. */
    static List<Long> takeApart(ShadeVotes x) {
        Eyes eyes = new Eyes(x);
        eyes.ask();
        eyes.undoAll();
        eyes.goBack();
        eyes.seen.add((long) x.commune());
        eyes.glance();
        return eyes.seen;
    }

    private void ask() {
        for (int t = 0; t < 5; t++) {
            for (int what = 0; what <= 5; what++) {
                seen.add((long) x.tree(t, what));
            }
        }
        for (int p = 0; p < 7; p++) {
            for (int what = 0; what <= 2; what++) {
                seen.add((long) x.person(p, what));
            }
        }
        for (int m = 0; m < 3; m++) {
            seen.add((long) x.motion(m, 0));
        }
        for (int what = 0; what <= 4; what++) {
            seen.add((long) x.now(what));
            seen.add((long) x.count(what));
        }
        seen.add((long) x.mayBe());
        seen.add(x.trace());
    }

    private void glance() {
        for (int what = 0; what <= 4; what++) {
            seen.add((long) x.now(what));
        }
        for (int t = 0; t < 5; t++) {
            seen.add((long) x.tree(t, 1));
        }
        for (int p = 0; p < 7; p++) {
            seen.add((long) x.person(p, 0));
        }
    }

    private void undoAll() {
        for (int i = 0; i <= 10; i++) {
            long left = x.undo();
            seen.add(left);
            if (left < 0) {
                return;
            }
            glance();
        }
    }

    private void goBack() {
        for (int image = 0; image < 2; image++) {
            seen.add((long) x.back(image));
            glance();
        }
    }
}

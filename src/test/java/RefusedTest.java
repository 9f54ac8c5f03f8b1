import java.util.ArrayList;
import java.util.List;

/**
 * "Refused, and nothing changes, the first of these: BAD, STATE, FULL": each refused call is made on one of two
 * objects in the same state; both are then taken apart, and must show the same.
 */
public final class RefusedTest {
    private static final int BAD = -1, STATE = -2, FULL = -3, NO = -1000000;
    private static final Checks C = new Checks();

    public static void main(String[] args) {
        stagesAreWhatTheySay();
        for (Stage stage : Stage.values()) {
            for (Call call : Call.values()) {
                wrongNumbers(stage, call);
                if (call.isQuestion()) {
                    questionsChangeNothing(stage, call);
                }
            }
        }
        typeIsFull();
        movesOffTheLand();
        plantsWhereATreeIs();
        plantsASixth();
        plantsIsRefusedByTheFirst();
        fellsAgain();
        growsBehindTheLastDay();
        undoOfNothing();
        countedIsFull();
        backToWhatWasNotKept();
        communeWithAFault();
        C.end("RefusedTest");
    }

    /** Else the tests below would show less than they say. */
    private static void stagesAreWhatTheySay() {
        ShadeVotes some = Stage.SOME.make();
        C.due("some: trees", some.now(3), 3);
        C.due("some: people", some.count(2), 5);
        C.due("some: day", some.now(0), 1);
        C.due("some: winter", some.now(2), 1);
        C.due("some: may be undone", some.now(4), 6);
        C.due("some: counted", some.count(3), 2);
        C.due("some: suns that may be", some.mayBe(), 255);
        C.due("some: trace", some.trace(), 1011);
        C.due("some: a text that tells", some.commune(), 3);
        ShadeVotes most = Stage.MOST.make();
        C.due("most: trees", most.now(3), 5);
        C.due("most: people", most.count(2), 7);
        C.due("most: may be undone", most.now(4), 10);
        C.due("most: counted", most.count(3), 5);
        C.due("most: suns that may be", most.mayBe(), 448);
        C.due("most: image 1", most.back(1), 1);
        C.due("most: image 0", most.back(0), 0);
        ShadeVotes wordy = Stage.WORDY.make();
        C.due("wordy: letters", wordy.count(4), 200);
        C.due("wordy: a text that tells", wordy.commune(), 2);
    }

    /** The call answers what is due, and all calls behind it answer as if it had not been made. */
    private static void changesNothing(String name, Stage stage, Stage.Step call, long due) {
        ShadeVotes x = stage.make();
        List<Long> before = Eyes.takeApart(stage.make());
        C.due(name + " of " + stage, call.on(x), due);
        List<Long> behind = Eyes.takeApart(x);
        C.holds("nothing changes by " + name + " of " + stage, behind.equals(before));
        C.holds("512 calls at most: " + name, stage.calls() + 1 + behind.size() <= Eyes.CALLS);
    }

    private static void wrongNumbers(Stage stage, Call call) {
        ShadeVotes x = stage.make();
        for (int wrong = 1; wrong < 1 << call.told.length; wrong++) {
            for (int[] numbers : withWrong(x, call, wrong)) {
                changesNothing(call.written(numbers), stage, y -> call.on(y, numbers), call == Call.RATE ? NO : BAD);
            }
        }
    }

    /** Rows of numbers for a call: those whose bits are set are wrong, all others are the least or the most told. */
    private static List<int[]> withWrong(ShadeVotes x, Call call, int wrong) {
        List<int[]> rows = new ArrayList<>();
        rows.add(new int[call.told.length]);
        for (int i = 0; i < call.told.length; i++) {
            Told told = call.told[i];
            boolean isWrong = (wrong >> i & 1) == 1;
            int[] choices = isWrong ? told.wrong(x) : new int[] {told.least(), told.most(x)};
            List<int[]> more = new ArrayList<>();
            for (int[] row : rows) {
                for (int choice : choices) {
                    int[] next = row.clone();
                    next[i] = choice;
                    more.add(next);
                }
            }
            rows = more;
        }
        // Two wrong numbers by two wrong numbers by .. are many: some of them will do.
        List<int[]> some = new ArrayList<>();
        int step = 1 + rows.size() / 60;
        for (int i = 0; i < rows.size(); i += step) {
            some.add(rows.get(i));
        }
        return some;
    }

    private static void questionsChangeNothing(Stage stage, Call call) {
        ShadeVotes x = stage.make();
        for (int[] numbers : withWrong(x, call, 0)) {
            long due = call.on(stage.make(), numbers);
            changesNothing(call.written(numbers), stage, y -> call.on(y, numbers), due);
            C.due(call.written(numbers) + " again", twice(stage, call, numbers), due);
        }
    }

    private static long twice(Stage stage, Call call, int[] numbers) {
        ShadeVotes x = stage.make();
        call.on(x, numbers);
        return call.on(x, numbers);
    }

    /** Promise 2. */
    private static void typeIsFull() {
        for (int letter : new int[] {0, ' ', ';', 'g', 255}) {
            changesNothing("type(" + letter + ")", Stage.WORDY, x -> x.type(letter), FULL);
        }
        changesNothing("BAD is ahead of FULL: type(-1)", Stage.WORDY, x -> x.type(-1), BAD);
        changesNothing("BAD is ahead of FULL: type(256)", Stage.WORDY, x -> x.type(256), BAD);
    }

    /** Promise 9: people of SOME are at 8, 4, 2, 3, 1 of 4 by 3, those of MOST at 5, 2, 7, 17, 19, 3, 14 of 5 by 4. */
    private static void movesOffTheLand() {
        changesNothing("left off", Stage.SOME, x -> x.moves(0, 3), STATE);
        changesNothing("down off", Stage.SOME, x -> x.moves(0, 2), STATE);
        changesNothing("left off, in the middle row", Stage.SOME, x -> x.moves(1, 3), STATE);
        changesNothing("up off", Stage.SOME, x -> x.moves(2, 0), STATE);
        changesNothing("right off", Stage.SOME, x -> x.moves(3, 1), STATE);
        changesNothing("left off", Stage.MOST, x -> x.moves(0, 3), STATE);
        changesNothing("up off", Stage.MOST, x -> x.moves(1, 0), STATE);
        changesNothing("down off", Stage.MOST, x -> x.moves(3, 2), STATE);
        changesNothing("right off", Stage.MOST, x -> x.moves(4, 1), STATE);
        changesNothing("down off", Stage.MOST, x -> x.moves(4, 2), STATE);
        changesNothing("right off, in a middle row", Stage.MOST, x -> x.moves(6, 1), STATE);
    }

    /** Promise 12: trees of SOME are at 8, 6 (a stump), 11, those of MOST at 17, 12, 7 (a stump), 2, 19. */
    private static void plantsWhereATreeIs() {
        for (int cell : new int[] {8, 6, 11}) {
            changesNothing("plants at " + cell, Stage.SOME, x -> x.plants(cell, 7), STATE);
        }
    }

    private static void plantsASixth() {
        for (int cell : new int[] {0, 1, 3, 16, 18}) {
            changesNothing("plants a sixth at " + cell, Stage.MOST, x -> x.plants(cell, 0), FULL);
        }
    }

    private static void plantsIsRefusedByTheFirst() {
        for (int cell : new int[] {17, 12, 7, 2, 19}) {
            changesNothing("STATE is ahead of FULL at " + cell, Stage.MOST, x -> x.plants(cell, 0), STATE);
            changesNothing("BAD is ahead of STATE at " + cell, Stage.MOST, x -> x.plants(cell, 8), BAD);
        }
        changesNothing("BAD is ahead of FULL", Stage.MOST, x -> x.plants(0, -1), BAD);
        changesNothing("BAD is ahead of STATE", Stage.SOME, x -> x.plants(8, 8), BAD);
        changesNothing("BAD is ahead of STATE", Stage.SOME, x -> x.plants(8, -1), BAD);
    }

    /** Promise 13. */
    private static void fellsAgain() {
        changesNothing("fells again", Stage.SOME, x -> x.fells(1), STATE);
        changesNothing("fells again", Stage.MOST, x -> x.fells(2), STATE);
    }

    /** Promise 11: no object comes so far in 512 calls, but the document tells the bound. */
    private static void growsBehindTheLastDay() {
        ShadeVotes x = Stage.SOME.make();
        ShadeVotes other = Stage.SOME.make();
        for (int day = 2; day <= 999; day++) {
            C.due("grows to " + day, x.grows(), day);
            other.grows();
        }
        C.due("grows behind day 999", x.grows(), STATE);
        C.due("grows behind day 999 again", x.grows(), STATE);
        C.holds("nothing changes by grows behind day 999", Eyes.takeApart(x).equals(Eyes.takeApart(other)));
    }

    /** Promise 16. */
    private static void undoOfNothing() {
        changesNothing("undo of nothing", Stage.NEW, x -> x.undo(), STATE);
        changesNothing("undo of nothing", Stage.WORDY, x -> x.undo(), STATE);
    }

    /** Promise 23. */
    private static void countedIsFull() {
        for (int m = 0; m <= 2; m++) {
            int motion = m;
            changesNothing("counted a sixth", Stage.MOST, x -> x.counted(motion, 0), FULL);
            changesNothing("counted a sixth", Stage.MOST, x -> x.counted(motion, 28), FULL);
            changesNothing("BAD is ahead of FULL", Stage.MOST, x -> x.counted(motion, 29), BAD);
            changesNothing("BAD is ahead of FULL", Stage.MOST, x -> x.counted(motion, -1), BAD);
        }
        changesNothing("BAD is ahead of FULL", Stage.MOST, x -> x.counted(3, 0), BAD);
    }

    /** Promise 32. */
    private static void backToWhatWasNotKept() {
        changesNothing("back to image 0", Stage.NEW, x -> x.back(0), STATE);
        changesNothing("back to image 1", Stage.NEW, x -> x.back(1), STATE);
        changesNothing("back to image 1", Stage.SOME, x -> x.back(1), STATE);
    }

    /** Promise 4: the text stays, too; a letter more, and it tells something else. */
    private static void communeWithAFault() {
        for (Stage stage : new Stage[] {Stage.NEW, Stage.SOME, Stage.MOST}) {
            for (String fault : new String[] {"x", "p0", "g5 4;p0 1;s", "t0 1 1 1;t0 1 1 1;", "p0 1;g2 2;"}) {
                ShadeVotes x = withText(stage, fault);
                int answer = x.commune();
                C.holds("a fault of [" + fault + "] of " + stage, answer <= -10);
                C.due("the same fault again", x.commune(), answer);
                C.due("letters behind the fault", x.count(4), fault.length());
                C.holds("nothing changes by the fault of [" + fault + "] of " + stage,
                        Eyes.takeApart(x).equals(Eyes.takeApart(withText(stage, fault))));
            }
        }
        ShadeVotes x = withText(Stage.SOME, "g2 2;p3 4;s8");
        C.due("it ends too early", x.commune(), -10 - 12);
        C.due("the letter that was missing", x.type(';'), 13);
        C.due("it is told then", x.commune(), 3);
        C.due("sun", x.now(1), 8);
        C.due("cell", x.person(0, 0), 3);
    }

    private static ShadeVotes withText(Stage stage, String text) {
        ShadeVotes x = stage.make();
        x.clear();
        Checks.type(x, text);
        return x;
    }
}

import java.util.EnumMap;
import java.util.Map;
import java.util.Random;

/**
 * Runs of just 512 calls, the most that the document allows: calls that are made again and again answer by reckoning,
 * and the 512th call answers as if it were the first.
 */
public final class LongRunTest {
    private static final int STATE = -2, FULL = -3, NONE = -9;
    // 4 wide, 3 high. Tree 0 shades 8, 4, 0; tree 1 shades 6, 2; person 0 is under tree 0, person 1 under tree 1.
    private static final String TEXT = "g4 3;t8 7 1 1;t6 3 0 6;p8 2;p2 3;s3;";
    // As much as there may be of each item.
    private static final String LONGEST = "g5 4;t0 20 1 7;t1 20 1 7;t2 20 1 7;t3 20 1 7;t4 20 1 7;"
            + "p19 4;p18 4;p17 4;p16 4;p15 4;p14 4;p13 4;s9;";
    private static final Checks C = new Checks();

    /** A run counts the calls of its object, so that it ends with the 512th. */
    private final String name;
    private final ShadeVotes x = new ShadeVotes();
    private int used;

    private LongRunTest(String name) {
        this.name = name;
    }

    public static void main(String[] args) {
        letters();
        lettersAndClears();
        theLongestTextTwice();
        tellingAnew();
        theSameFault();
        growing();
        growingAndUndoing();
        walking();
        walkingAgainstTheEdge();
        pruning();
        planting();
        felling();
        winters();
        suns();
        undoingTheTenThatAreKnown();
        counting();
        rating();
        imagesAgainAndAgain();
        eachQuestionAgainAndAgain();
        for (Stage stage : Stage.values()) {
            for (Call call : Call.values()) {
                theLastCallAnswersAsTheFirst(stage, call);
            }
        }
        C.end("LongRunTest");
    }

    private static LongRunTest told(String name) {
        LongRunTest run = new LongRunTest(name);
        run.tell(TEXT, 6);
        return run;
    }

    private void tell(String text, int items) {
        for (int i = 0; i < text.length(); i++) {
            due(x.type(text.charAt(i)), i + 1);
        }
        due(x.commune(), items);
    }

    private void due(long got, long want) {
        used++;
        C.due(name + ", call " + used, got, want);
    }

    private boolean hasRoom(int calls) {
        return used + calls <= Eyes.CALLS;
    }

    /** What is left of the 512 is spent with a question that changes nothing. */
    private void fill(int calls, int trees) {
        while (hasRoom(calls + 1)) {
            due(x.now(3), trees);
        }
    }

    private void end() {
        C.due(name + ": calls in all", used, Eyes.CALLS);
    }

    /** Promise 2: 200 letters, then FULL up to the 512th. */
    private static void letters() {
        LongRunTest run = new LongRunTest("letters");
        for (int i = 1; run.hasRoom(1); i++) {
            run.due(run.x.type(i % 256), i <= 200 ? i : FULL);
        }
        run.end();
    }

    /** Promise 3. */
    private static void lettersAndClears() {
        LongRunTest run = new LongRunTest("letters and clears");
        for (int n = 0; run.hasRoom(n + 1 + 1); n++) {
            for (int i = 1; i <= n; i++) {
                run.due(run.x.type(';'), i);
            }
            run.due(run.x.clear(), n);
        }
        run.fill(1, 0);
        run.due(run.x.count(4), 0);
        run.end();
    }

    /** Promise 4: 200 letters that tell all there may be, and 200 more. */
    private static void theLongestTextTwice() {
        LongRunTest run = new LongRunTest("the longest text twice");
        String text = LONGEST + " ".repeat(200 - LONGEST.length());
        for (int i = 0; i < 2; i++) {
            run.tell(text, 14);
            run.due(run.x.now(1), 9);
            run.due(run.x.now(3), 5);
            run.due(run.x.count(2), 7);
            run.due(run.x.person(6, 0), 13);
            run.due(run.x.tree(4, 4), 16);
        }
        run.fill(1, 5);
        run.due(run.x.motion(0, 0), 0);
        run.end();
    }

    /** Promise 4: each time all that was is gone. */
    private static void tellingAnew() {
        LongRunTest run = new LongRunTest("telling anew");
        for (int i = 0; run.hasRoom(17 + 1); i++) {
            run.tell("s" + (1 + i % 9) + ";p" + i % 9 + " 1;", 2);
            run.due(run.x.now(4), 0);
            run.due(run.x.now(0), 0);
            run.due(run.x.back(0), STATE);
            run.due(run.x.keep(0), 0);
            run.due(run.x.grows(), 1);
            run.due(run.x.counted(0, i % 29), 1);
            run.due(run.x.person(0, 0), i % 9);
            run.due(run.x.now(1), 1 + i % 9);
        }
        run.fill(1, 0);
        run.due(run.x.count(2), 1);
        run.end();
    }

    /** "-10 less FAULT: nothing changes": the text neither, so it is the same fault. */
    private static void theSameFault() {
        LongRunTest run = new LongRunTest("the same fault");
        String text = " ".repeat(194) + "p8 2;";
        for (int i = 0; i < text.length(); i++) {
            run.due(run.x.type(text.charAt(i)), i + 1);
        }
        run.due(run.x.type('g'), 200);
        while (run.hasRoom(1 + 4)) {
            run.due(run.x.commune(), -10 - 199);
        }
        run.due(run.x.count(4), 200);
        run.due(run.x.count(2), 0);
        run.due(run.x.clear(), 200);
        run.due(run.x.commune(), 0);
        run.end();
    }

    /** Promise 11. */
    private static void growing() {
        LongRunTest run = told("growing");
        run.due(run.x.fells(1), 3);
        int day = 0;
        while (run.hasRoom(1 + 4)) {
            day++;
            run.due(run.x.grows(), day);
        }
        run.due(run.x.now(0), day);
        run.due(run.x.tree(0, 1), 20);
        run.due(run.x.tree(1, 1), 0);
        run.due(run.x.now(4), 10);
        run.end();
        LongRunTest bare = new LongRunTest("growing without trees");
        for (int i = 1; bare.hasRoom(1); i++) {
            bare.due(bare.x.grows(), i);
        }
        bare.end();
    }

    /** Promise 16: each day is undone before the next. */
    private static void growingAndUndoing() {
        LongRunTest run = told("growing and undoing");
        while (run.hasRoom(4 + 1)) {
            run.due(run.x.grows(), 1);
            run.due(run.x.tree(0, 1), 8);
            run.due(run.x.undo(), 0);
            run.due(run.x.tree(0, 1), 7);
        }
        run.fill(1, 2);
        run.due(run.x.undo(), STATE);
        run.end();
    }

    /** Promise 9: round the land, right, down, left, up, again and again. */
    private static void walking() {
        LongRunTest run = told("walking");
        int[] ways = {1, 2, 3, 0};
        int[] cells = {3, 7, 6, 2};
        int steps = 0;
        while (run.hasRoom(1 + 14)) {
            run.due(run.x.moves(1, ways[steps % 4]), cells[steps % 4]);
            steps++;
        }
        for (int left = 9; left >= 0; left--) {
            run.due(run.x.undo(), left);
        }
        run.due(run.x.undo(), STATE);
        run.due(run.x.person(1, 0), cells[(steps - 11) % 4]);
        run.due(run.x.now(4), 0);
        run.due(run.x.person(0, 0), 8);
        run.end();
    }

    private static void walkingAgainstTheEdge() {
        LongRunTest run = told("walking against the edge");
        while (run.hasRoom(2 + 2)) {
            run.due(run.x.moves(0, 3), STATE);
            run.due(run.x.moves(0, 2), STATE);
        }
        run.fill(2, 2);
        run.due(run.x.now(4), 0);
        run.due(run.x.person(0, 0), 8);
        run.end();
    }

    /** Promise 10: 3 lower, one day higher, down to 0 and on. */
    private static void pruning() {
        LongRunTest run = told("pruning");
        int height = 7;
        for (int day = 1; run.hasRoom(2 + 1); day++) {
            height = Math.max(height - 3, 0);
            run.due(run.x.prunes(0, 3), height);
            run.due(run.x.grows(), day);
            height++;
        }
        run.fill(1, 2);
        run.due(run.x.tree(0, 1), height);
        run.end();
    }

    /** Promise 12: a third tree, at each cell that has none, and a sixth that there is no room for. */
    private static void planting() {
        LongRunTest run = told("planting");
        int[] free = {0, 1, 2, 3, 4, 5, 7, 9, 10, 11};
        for (int i = 0; run.hasRoom(8 + 1); i++) {
            run.due(run.x.plants(free[i % 10], i % 8), 2);
            run.due(run.x.plants(free[(i + 1) % 10], 0), 3);
            run.due(run.x.plants(free[(i + 2) % 10], 0), 4);
            run.due(run.x.plants(free[(i + 3) % 10], 0), FULL);
            run.due(run.x.tree(2, 3), i % 8);
            run.due(run.x.undo(), 2);
            run.due(run.x.undo(), 1);
            run.due(run.x.undo(), 0);
        }
        run.fill(1, 2);
        run.due(run.x.plants(11, 7), 2);
        run.end();
    }

    /** Promise 13. */
    private static void felling() {
        LongRunTest run = told("felling");
        while (run.hasRoom(5 + 1)) {
            run.due(run.x.fells(0), 7);
            run.due(run.x.fells(0), STATE);
            run.due(run.x.person(0, 2), NONE);
            run.due(run.x.undo(), 0);
            run.due(run.x.person(0, 2), 0);
        }
        run.fill(1, 2);
        run.due(run.x.fells(1), 3);
        run.end();
    }

    /** Promise 14: tree 1 is not evergreen. */
    private static void winters() {
        LongRunTest run = told("winters");
        for (int i = 0; run.hasRoom(2); i++) {
            run.due(run.x.winter(1 - i % 2), i % 2);
            run.due(run.x.person(1, 2), i % 2 == 0 ? NONE : 1);
        }
        run.fill(0, 2);
        run.end();
    }

    /** Promise 15: tree 0 shades its own cell, and more of those to the north the lower the sun is. */
    private static void suns() {
        LongRunTest run = told("suns");
        int was = 3;
        for (int i = 0; run.hasRoom(2); i++) {
            int sun = 1 + i * 4 % 9;
            run.due(run.x.sun(sun), was);
            run.due(run.x.tree(0, 4), sun <= 3 ? 273 : sun <= 7 ? 272 : 256);
            was = sun;
        }
        run.fill(0, 2);
        run.end();
    }

    /** "10 are known, older ones are lost": eleven are done and ten undone, again and again. */
    private static void undoingTheTenThatAreKnown() {
        LongRunTest run = told("undoing the ten that are known");
        int day = 0;
        while (run.hasRoom(23 + 1)) {
            for (int i = 1; i <= 11; i++) {
                run.due(run.x.grows(), day + i);
            }
            run.due(run.x.now(4), 10);
            for (int left = 9; left >= 0; left--) {
                run.due(run.x.undo(), left);
            }
            run.due(run.x.undo(), STATE);
            day++;
        }
        run.fill(1, 2);
        run.due(run.x.now(0), day);
        run.end();
    }

    /** Promises 23 to 25: 3 are for motion 1 by suns 1 to 3 alone. */
    private static void counting() {
        LongRunTest run = told("counting");
        while (run.hasRoom(10 + 1)) {
            run.due(run.x.mayBe(), 511);
            for (int n = 1; n <= 5; n++) {
                run.due(run.x.counted(1, 3), n);
            }
            run.due(run.x.counted(1, 0), FULL);
            run.due(run.x.count(3), 5);
            run.due(run.x.mayBe(), 7);
            run.due(run.x.forget(), 5);
        }
        run.fill(1, 2);
        run.due(run.x.forget(), 0);
        run.end();
    }

    /** Promises 30 and 34: each body once for each rate that is asked. */
    private static void rating() {
        int[] rates = {3, 6, -3, 12, -2, 5};
        int[] marks = {1, 11, 101, 1011, 10101, 100001};
        for (int kind = 0; kind <= 5; kind++) {
            LongRunTest run = told("rating as kind " + kind);
            long trace = 0;
            while (run.hasRoom(1 + 1)) {
                run.due(run.x.rate(kind, 1), rates[kind]);
                trace += marks[kind];
            }
            run.due(run.x.trace(), trace);
            run.end();
        }
    }

    /** Promises 31 and 32: image 0 stays with the first day, image 1 goes with the days. */
    private static void imagesAgainAndAgain() {
        LongRunTest run = told("images again and again");
        run.due(run.x.keep(0), 0);
        int day = 0;
        while (run.hasRoom(9 + 1)) {
            run.due(run.x.grows(), day + 1);
            day++;
            run.due(run.x.keep(1), day);
            run.due(run.x.back(0), 0);
            run.due(run.x.tree(0, 1), 7);
            run.due(run.x.undo(), STATE);
            run.due(run.x.moves(0, 1), 9);
            run.due(run.x.back(1), day);
            run.due(run.x.person(0, 0), 8);
            run.due(run.x.tree(0, 1), Math.min(7 + day, 20));
        }
        run.fill(1, 2);
        run.due(run.x.back(0), 0);
        run.end();
    }

    /** What is asked changes nothing, however often. */
    private static void eachQuestionAgainAndAgain() {
        again("count", x -> x.count(0), 4);
        again("tree", x -> x.tree(0, 4), 273);
        again("person", x -> x.person(1, 2), 1);
        again("motion", x -> x.motion(0, 1), 3);
        again("now", x -> x.now(4), 0);
        again("movers", x -> x.movers(0, 1), 2);
        again("prune", x -> x.prune(0), 101);
        again("plant", x -> x.plant(0, 6), 2);
        again("suns", x -> x.suns(0), 504);
        again("hedge", x -> x.hedge(0), NONE);
        again("share", x -> x.share(1), 60);
        again("mayBe", x -> x.mayBe(), 511);
        again("odds, upper", x -> x.odds(0, 5, 0), 1);
        again("odds, lower", x -> x.odds(0, 5, 1), 4);
        again("sway", x -> x.sway(0), 2);
        again("cool", x -> x.cool(1), 2);
        again("dark", x -> x.dark(4), 1);
        again("trace", x -> x.trace(), 0);
    }

    private static void again(String name, Stage.Step question, long due) {
        LongRunTest run = told(name + " again and again");
        while (run.hasRoom(1)) {
            run.due(question.on(run.x), due);
        }
        run.end();
    }

    /** Between the stage and the last call there are questions alone, with numbers right and wrong. */
    private static void theLastCallAnswersAsTheFirst(Stage stage, Call call) {
        Random random = new Random(stage.ordinal() * 100 + call.ordinal());
        Map<Told, Integer> mosts = mosts(stage);
        for (int i = 0; i < 8; i++) {
            ShadeVotes late = stage.make();
            int used = stage.calls();
            while (used < Eyes.CALLS - 1) {
                Call question = Call.values()[random.nextInt(Call.values().length)];
                if (question.isQuestion()) {
                    question.on(late, numbers(random, question, mosts));
                    used++;
                }
            }
            int[] numbers = numbers(random, call, mosts);
            C.due(call.written(numbers) + " as the 512th call of " + stage, call.on(late, numbers),
                    call.on(stage.make(), numbers));
        }
    }

    private static Map<Told, Integer> mosts(Stage stage) {
        Map<Told, Integer> mosts = new EnumMap<>(Told.class);
        ShadeVotes x = stage.make();
        for (Told told : Told.values()) {
            mosts.put(told, told.most(x));
        }
        return mosts;
    }

    /** Numbers from one below the least to one above the most. */
    private static int[] numbers(Random random, Call call, Map<Told, Integer> mosts) {
        int[] numbers = new int[call.told.length];
        for (int n = 0; n < numbers.length; n++) {
            int least = call.told[n].least() - 1;
            int most = Math.max(mosts.get(call.told[n]), least) + 1;
            numbers[n] = least + random.nextInt(most - least + 1);
        }
        return numbers;
    }
}

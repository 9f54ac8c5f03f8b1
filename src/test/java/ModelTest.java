import java.util.ArrayList;
import java.util.List;
import java.util.Random;

/** Long runs of calls, chosen by a fixed row of numbers, on the class and on the model: they answer alike. */
public final class ModelTest {
    private static final int RUNS = 2500;
    private static final int CALLS = Eyes.CALLS;
    /** So many calls it takes to ask for all that there is: of trees, people and motions, one more than there may be. */
    private static final int ALL = 6 * 6 + 8 * 4 + 4 * 4 + 6 * 2 + 1;
    private static final int[] WILD = {Integer.MIN_VALUE, Integer.MAX_VALUE, -1000000, -2, 31, 32, 33, 64, 256, 1 << 20};

    private final Checks checks;
    private final Random random;
    private final ShadeVotes x = new ShadeVotes();
    private final Model model = new Model();
    private final List<String> calls = new ArrayList<>();

    private ModelTest(Checks checks, long seed) {
        this.checks = checks;
        this.random = new Random(seed);
    }

    public static void main(String[] args) {
        Checks checks = new Checks();
        for (int run = 0; run < RUNS && !checks.isWrong(); run++) {
            new ModelTest(checks, run).run(run);
        }
        checks.end("ModelTest");
    }

    private void run(int run) {
        if (run % 16 != 0) {
            tell(text());
        }
        while (hasRoom(1) && !checks.isWrong()) {
            step();
        }
        if (!checks.isWrong()) {
            checks.due("calls of run " + run, calls.size(), CALLS);
        } else {
            System.out.println("run " + run + ": " + String.join("; ", calls));
        }
    }

    /** Whether so many calls more are within what an object is used for. */
    private boolean hasRoom(int more) {
        return calls.size() + more <= CALLS;
    }

    private void due(String call, long got, long want) {
        calls.add(call + " " + want);
        checks.due(call, got, want);
    }

    /** A number from least to most; now and then one beyond, or far beyond. */
    private int pick(int least, int most) {
        int chance = random.nextInt(60);
        if (chance == 0) {
            return WILD[random.nextInt(WILD.length)];
        }
        return chance == 1 ? least - 1 : chance == 2 ? most + 1 : least + random.nextInt(most - least + 1);
    }

    private void tell(String text) {
        for (int i = 0; i < text.length() && hasRoom(1); i++) {
            due("type(" + (int) text.charAt(i) + ")", x.type(text.charAt(i)), model.type(text.charAt(i)));
        }
        if (hasRoom(1)) {
            due("commune()", x.commune(), model.commune());
        }
        checkAll();
    }

    /** A text that mostly tells a commune, with letters changed now and then. */
    private String text() {
        StringBuilder s = new StringBuilder();
        int w = 3;
        int h = 3;
        if (random.nextInt(6) > 0) {
            w = 2 + random.nextInt(4);
            h = 2 + random.nextInt(3);
            s.append(blank()).append('g').append(w).append(' ').append(h).append(blank()).append(';');
        }
        boolean sunTold = random.nextInt(4) == 0;
        int trees = random.nextInt(6);
        int people = random.nextInt(8);
        List<Integer> cells = new ArrayList<>();
        for (int cell = 0; cell < w * h; cell++) {
            cells.add(cell);
        }
        while (trees > 0 || people > 0 || !sunTold) {
            int choice = random.nextInt(13);
            if (choice < 5 && trees > 0 && !cells.isEmpty()) {
                trees--;
                s.append('t').append(blank()).append(cells.remove(random.nextInt(cells.size()))).append(' ')
                        .append(random.nextInt(random.nextBoolean() ? 21 : 5)).append(' ').append(blank())
                        .append(random.nextInt(2)).append(' ').append(random.nextInt(8)).append(';');
            } else if (choice < 12 && people > 0) {
                people--;
                s.append('p').append(random.nextInt(w * h)).append(' ').append(1 + random.nextInt(4)).append(';');
            } else if (choice == 12 && !sunTold) {
                sunTold = true;
                s.append('s').append(1 + random.nextInt(9)).append(';').append(blank());
            } else if (cells.isEmpty()) {
                trees = 0;
            }
        }
        return random.nextInt(4) == 0 ? spoilt(s) : s.toString();
    }

    private String blank() {
        return random.nextInt(8) == 0 ? " ".repeat(1 + random.nextInt(2)) : "";
    }

    private String spoilt(StringBuilder s) {
        String signs = "gtps;0123456789 x";
        for (int i = random.nextInt(3); i >= 0 && s.length() > 0; i--) {
            int at = random.nextInt(s.length());
            char sign = signs.charAt(random.nextInt(signs.length()));
            switch (random.nextInt(4)) {
                case 0 -> s.setCharAt(at, sign);
                case 1 -> s.insert(at, sign);
                case 2 -> s.deleteCharAt(at);
                default -> s.setLength(at);
            }
        }
        return s.toString();
    }

    private void step() {
        int choice = random.nextInt(100);
        if (choice < 45) {
            doSomething();
        } else if (choice < 97) {
            askSomething();
        } else if (choice == 97) {
            due("trace()", x.trace(), model.trace());
            // It takes a fifth of all calls that a run has.
            if (random.nextInt(4) == 0) {
                checkAll();
            }
        } else if (random.nextInt(6) == 0) {
            due("clear()", x.clear(), model.clear());
            tell(text());
        } else {
            int letter = pick(0, 255);
            due("type(" + letter + ")", x.type(letter), model.type(letter));
        }
    }

    private void doSomething() {
        int t = pick(0, 4);
        int p = pick(0, 6);
        int n = pick(1, random.nextBoolean() ? 20 : 4);
        int way = pick(0, 3);
        int cell = pick(0, 19);
        int wants = pick(0, 7);
        int is = pick(0, 1);
        int s = pick(1, 9);
        switch (random.nextInt(12)) {
            case 0, 1 -> due("moves(" + p + ", " + way + ")", x.moves(p, way), model.moves(p, way));
            case 2 -> due("prunes(" + t + ", " + n + ")", x.prunes(t, n), model.prunes(t, n));
            case 3, 4 -> due("grows()", x.grows(), model.grows());
            case 5 -> due("plants(" + cell + ", " + wants + ")", x.plants(cell, wants), model.plants(cell, wants));
            case 6 -> due("winter(" + is + ")", x.winter(is), model.winter(is));
            case 7 -> due("sun(" + s + ")", x.sun(s), model.sun(s));
            case 8, 9 -> due("undo()", x.undo(), model.undo());
            case 10 -> {
                if (random.nextInt(3) == 0) {
                    due("fells(" + t + ")", x.fells(t), model.fells(t));
                } else {
                    due("keep(" + is + ")", x.keep(is), model.keep(is));
                }
            }
            default -> due("back(" + is + ")", x.back(is), model.back(is));
        }
    }

    private void askSomething() {
        int m = pick(0, 2);
        int t = pick(0, 4);
        int p = pick(0, 6);
        int what = pick(0, 5);
        int k = pick(0, random.nextBoolean() ? 9 : 2);
        int n = pick(1, 20);
        int v = pick(0, random.nextBoolean() ? 28 : 6);
        int of10 = pick(0, 10);
        int part = pick(0, 1);
        int cell = pick(0, 19);
        switch (random.nextInt(20)) {
            case 0 -> due("tree(" + t + ", " + what + ")", x.tree(t, what), model.tree(t, what));
            case 1 -> due("person(" + p + ", " + what + ")", x.person(p, what), model.person(p, what));
            case 2 -> due("motion(" + m + ", " + what + ")", x.motion(m, what), model.motion(m, what));
            case 3 -> due("now(" + what + ")", x.now(what), model.now(what));
            case 4, 5 -> due("movers(" + m + ", " + k + ")", x.movers(m, k), model.movers(m, k));
            case 6 -> due("prune(" + m + ")", x.prune(m), model.prune(m));
            case 7 -> due("plant(" + m + ", " + n + ")", x.plant(m, n), model.plant(m, n));
            case 8 -> due("suns(" + m + ")", x.suns(m), model.suns(m));
            case 9 -> due("hedge(" + m + ")", x.hedge(m), model.hedge(m));
            case 10 -> due("share(" + t + ")", x.share(t), model.share(t));
            case 11 -> count(m, v);
            case 12 -> due("mayBe()", x.mayBe(), model.mayBe());
            case 13, 14 -> due("odds(" + m + ", " + of10 + ", " + part + ")", x.odds(m, of10, part),
                    model.odds(m, of10, part));
            case 15 -> due("sway(" + m + ")", x.sway(m), model.sway(m));
            case 16 -> due("cool(" + p + ")", x.cool(p), model.cool(p));
            case 17 -> due("dark(" + cell + ")", x.dark(cell), model.dark(cell));
            case 18 -> due("rate(" + what + ", " + t + ")", x.rate(what, t), model.rate(what, t));
            default -> due("count(" + what + ")", x.count(what), model.count(what));
        }
    }

    /** What is counted is often what is so, lest it soon can't be. */
    private void count(int m, int v) {
        int weight = random.nextInt(3) > 0 && m >= 0 && m <= 2 ? model.motion(m, 0) : v;
        if (random.nextInt(3) == 0 || !hasRoom(2)) {
            due("forget()", x.forget(), model.forget());
        }
        if (hasRoom(2)) {
            due("counted(" + m + ", " + weight + ")", x.counted(m, weight), model.counted(m, weight));
            due("mayBe()", x.mayBe(), model.mayBe());
        }
    }

    private void checkAll() {
        if (!hasRoom(ALL)) {
            return;
        }
        int before = calls.size();
        for (int what = 0; what <= 5; what++) {
            for (int t = 0; t <= 5; t++) {
                due("tree(" + t + ", " + what + ")", x.tree(t, what), model.tree(t, what));
            }
            for (int p = 0; p <= 7 && what <= 3; p++) {
                due("person(" + p + ", " + what + ")", x.person(p, what), model.person(p, what));
            }
            for (int m = 0; m <= 3 && what <= 3; m++) {
                due("motion(" + m + ", " + what + ")", x.motion(m, what), model.motion(m, what));
            }
            due("now(" + what + ")", x.now(what), model.now(what));
            due("count(" + what + ")", x.count(what), model.count(what));
        }
        due("trace()", x.trace(), model.trace());
        checks.due("calls that it takes to ask all", calls.size() - before, ALL);
    }
}

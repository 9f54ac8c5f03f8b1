import java.util.Set;
import java.util.TreeSet;

/** The face as a table: which refusals a call may answer, from where to where its other answers go, its numbers. */
enum Call {
    TYPE("BAD FULL", 1, 200, (x, n) -> x.type(n[0]), Told.LETTER),
    CLEAR("", 0, 200, (x, n) -> x.clear()),
    // What it answers to a fault is -10 less a place: looked at on its own.
    COMMUNE("", 0, 14, (x, n) -> x.commune()),
    TREE("BAD", 0, (1 << 20) - 1, (x, n) -> x.tree(n[0], n[1]), Told.TREE, Told.TREE_WHAT),
    PERSON("BAD NONE", 0, 19, (x, n) -> x.person(n[0], n[1]), Told.PERSON, Told.PERSON_WHAT),
    MOTION("BAD", 0, 28, (x, n) -> x.motion(n[0], n[1]), Told.MOTION, Told.MOTION_WHAT),
    NOW("BAD", 0, 999, (x, n) -> x.now(n[0]), Told.NOW_WHAT),
    MOVES("BAD STATE", 0, 19, (x, n) -> x.moves(n[0], n[1]), Told.PERSON, Told.WAY),
    PRUNES("BAD", 0, 19, (x, n) -> x.prunes(n[0], n[1]), Told.TREE, Told.PRUNED_BY),
    GROWS("STATE", 1, 999, (x, n) -> x.grows()),
    PLANTS("BAD STATE FULL", 0, 4, (x, n) -> x.plants(n[0], n[1]), Told.CELL, Told.WANTS),
    FELLS("BAD STATE", 0, 20, (x, n) -> x.fells(n[0]), Told.TREE),
    WINTER("BAD", 0, 1, (x, n) -> x.winter(n[0]), Told.IS),
    SUN("BAD", 1, 9, (x, n) -> x.sun(n[0]), Told.SUN),
    UNDO("STATE", 0, 9, (x, n) -> x.undo()),
    MOVERS("BAD NONE", 0, 127, (x, n) -> x.movers(n[0], n[1]), Told.MOTION, Told.STEPS),
    PRUNE("BAD NONE", 0, 420, (x, n) -> x.prune(n[0]), Told.MOTION),
    PLANT("BAD NONE", 0, 19, (x, n) -> x.plant(n[0], n[1]), Told.MOTION, Told.HEIGHT),
    SUNS("BAD", 0, 511, (x, n) -> x.suns(n[0]), Told.MOTION),
    HEDGE("BAD NONE", 1, 4, (x, n) -> x.hedge(n[0]), Told.MOTION),
    SHARE("BAD", 0, 100, (x, n) -> x.share(n[0]), Told.TREE),
    COUNTED("BAD FULL", 1, 5, (x, n) -> x.counted(n[0], n[1]), Told.MOTION, Told.WEIGHT),
    FORGET("", 0, 5, (x, n) -> x.forget()),
    MAY_BE("", 0, 511, (x, n) -> x.mayBe()),
    ODDS("BAD", 0, 10000000, (x, n) -> x.odds(n[0], n[1], n[2]), Told.MOTION, Told.CHANCE, Told.PART),
    SWAY("BAD", 0, 127, (x, n) -> x.sway(n[0]), Told.MOTION),
    COOL("BAD NONE", 0, 19, (x, n) -> x.cool(n[0]), Told.PERSON),
    // Trees have unlike cells, and a column has four at most.
    DARK("BAD", 0, 4, (x, n) -> x.dark(n[0]), Told.CELL),
    // From a poplar of no height at cell 19 to an elder of height 20 that all are under.
    RATE("NO", -19, 96, (x, n) -> x.rate(n[0], n[1]), Told.KIND, Told.TREE),
    KEEP("BAD", 0, 999, (x, n) -> x.keep(n[0]), Told.IMAGE),
    BACK("BAD STATE", 0, 999, (x, n) -> x.back(n[0]), Told.IMAGE),
    COUNT("BAD", 0, 200, (x, n) -> x.count(n[0]), Told.COUNT_WHAT),
    TRACE("", 0, Long.MAX_VALUE, (x, n) -> x.trace());

    interface Way {
        long on(ShadeVotes x, int[] numbers);
    }

    final Set<Long> refusals = new TreeSet<>();
    final long least;
    final long most;
    final Told[] told;
    private final Way way;

    Call(String refusals, long least, long most, Way way, Told... told) {
        for (String name : refusals.split(" ")) {
            if (!name.isEmpty()) {
                this.refusals.add(named(name));
            }
        }
        this.least = least;
        this.most = most;
        this.way = way;
        this.told = told;
    }

    static long named(String refusal) {
        return switch (refusal) {
            case "BAD" -> -1;
            case "STATE" -> -2;
            case "FULL" -> -3;
            case "NONE" -> -9;
            case "NO" -> -1000000;
            default -> throw new IllegalArgumentException("no constant of the face: " + refusal);
        };
    }

    /** What it answers if a number is not as told. */
    long bad() {
        return this == RATE ? -1000000 : -1;
    }

    /** Whether it only asks: no answer of any later call may depend on it. */
    boolean isQuestion() {
        return switch (this) {
            case TREE, PERSON, MOTION, NOW, MOVERS, PRUNE, PLANT, SUNS, HEDGE, SHARE, MAY_BE, ODDS, SWAY, COOL, DARK,
                COUNT, TRACE -> true;
            default -> false;
        };
    }

    boolean isToldRight(ShadeVotes x, int[] numbers) {
        for (int i = 0; i < told.length; i++) {
            if (!told[i].holds(x, numbers[i])) {
                return false;
            }
        }
        return true;
    }

    long on(ShadeVotes x, int... numbers) {
        return way.on(x, numbers);
    }

    /** Its name in the class. */
    String called() {
        return this == MAY_BE ? "mayBe" : name().toLowerCase();
    }

    String written(int... numbers) {
        StringBuilder s = new StringBuilder(called()).append('(');
        for (int i = 0; i < numbers.length; i++) {
            s.append(i == 0 ? "" : ", ").append(numbers[i]);
        }
        return s.append(')').toString();
    }
}

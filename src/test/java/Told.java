/** What a number of a call may be, as the document tells it; some of it depends on what there is. */
enum Told {
    LETTER(0, 255), TREE(0, -1), TREE_WHAT(0, 5), PERSON(0, -1), PERSON_WHAT(0, 2), MOTION(0, 2), MOTION_WHAT(0, 2),
    NOW_WHAT(0, 4), WAY(0, 3), PRUNED_BY(1, 20), CELL(0, -1), WANTS(0, 7), IS(0, 1), SUN(1, 9), STEPS(0, 9),
    HEIGHT(1, 20), WEIGHT(0, 28), CHANCE(0, 10), PART(0, 1), KIND(0, 5), IMAGE(0, 1), COUNT_WHAT(0, 4);

    private final int least;
    private final int most;

    Told(int least, int most) {
        this.least = least;
        this.most = most;
    }

    int least() {
        return least;
    }

    /** Less than the least, if there is none. */
    int most(ShadeVotes x) {
        return switch (this) {
            case TREE -> x.now(3) - 1;
            case PERSON -> x.count(2) - 1;
            case CELL -> x.count(0) * x.count(1) - 1;
            default -> most;
        };
    }

    /** How many calls of the object it takes to know the most. */
    int calls() {
        return this == CELL ? 2 : this == TREE || this == PERSON ? 1 : 0;
    }

    boolean holds(ShadeVotes x, int n) {
        return n >= least && n <= most(x);
    }

    /** Just below, just above, the least and the greatest int, and such as bits cut off would make right. */
    int[] wrong(ShadeVotes x) {
        int above = most(x) + 1;
        return new int[] {Integer.MIN_VALUE, Integer.MIN_VALUE + 1, -1000000, least - 2, least - 1, above, above + 1,
            256 + above, 65536 + least, 1 << 30, Integer.MAX_VALUE - 1, Integer.MAX_VALUE};
    }
}

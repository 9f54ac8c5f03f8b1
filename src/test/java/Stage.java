import java.util.List;

/** Objects that can be made again and again in the same state, so that one can show what became of another. */
enum Stage {
    NEW("", List.of(), ""),
    /** Of most things some: trees, people, days, a stump, winter, an image, counts, a trace, a text not told yet. */
    SOME("g4 3;t8 7 1 1;t6 3 0 6;t11 9 0 3;p8 2;p4 1;p2 3;p3 2;p0 4;s4;", List.of(
            x -> x.moves(4, 1), x -> x.keep(0), x -> x.sun(3), x -> x.prunes(2, 2), x -> x.fells(1),
            x -> x.winter(1), x -> x.grows(), x -> x.counted(0, 3), x -> x.counted(1, 0), x -> x.rate(3, 0)),
            "g2 2;p1 2;t3 4 1 2;"),
    /** As much as there may be of trees, people, counts, images, and of what may be undone. */
    MOST("g5 4;t17 18 0 1;t12 5 1 2;t7 9 0 4;t2 1 1 7;p0 4;p2 1;p7 2;p17 3;p19 4;p4 1;p14 2;s2;", List.of(
            x -> x.plants(19, 3), x -> x.keep(0), x -> x.grows(), x -> x.moves(5, 3), x -> x.sun(4), x -> x.winter(1),
            x -> x.prunes(0, 3), x -> x.keep(1), x -> x.grows(), x -> x.fells(2), x -> x.winter(0), x -> x.sun(1),
            x -> x.grows(), x -> x.moves(0, 2), x -> x.counted(0, 10), x -> x.counted(0, 10), x -> x.counted(1, 5),
            x -> x.counted(2, 1), x -> x.counted(2, 1), x -> x.rate(4, 3)),
            "s7;"),
    /** A text that has all the letters that it may have. */
    WORDY("", List.of(), "t4 3 1 1;p4 3;" + " ".repeat(186));

    private final String text;
    private final List<Step> steps;
    private final String pending;

    interface Step {
        long on(ShadeVotes x);
    }

    Stage(String text, List<Step> steps, String pending) {
        this.text = text;
        this.steps = steps;
        this.pending = pending;
    }

    ShadeVotes make() {
        ShadeVotes x = text.isEmpty() ? new ShadeVotes() : Checks.told(text);
        for (Step step : steps) {
            step.on(x);
        }
        Checks.type(x, pending);
        return x;
    }

    /** How many calls it took to make. */
    int calls() {
        return (text.isEmpty() ? 0 : 1 + text.length() + 1) + steps.size() + pending.length();
    }
}

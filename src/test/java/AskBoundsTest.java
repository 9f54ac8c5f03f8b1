/** Each sentence of the document's section 3 (and promises 17 to 29) that names a bound, on both sides of it. */
public final class AskBoundsTest {
    private static final int BAD = -1, STATE = -2, FULL = -3, NONE = -9;
    private static final Checks C = new Checks();

    public static void main(String[] args) {
        moversBy0To9Steps();
        moversGoJustSoFar();
        moversDoNotLeaveTheLand();
        moversAreTheFewest();
        moversOfAsFewAreTheLeast();
        moversNobodyOrNone();
        pruneIsTheLeast();
        pruneOfSeveralTheLowestTree();
        pruneTellsTreeAndHowMuch();
        pruneIs0AsItIs();
        pruneIsNone();
        plantOfHeight1To20();
        plantAtTheFirstCellWithoutATree();
        plantIsOfTheHighestNumber();
        plantIsEvergreenAndWantsJustThat();
        plantIsOneMoreThanFive();
        plantIsNone();
        sunsAreNineBits();
        hedgeAtEachColumn();
        hedgeIsTheFirst();
        hedgeIsNone();
        shareIsCut();
        shareIs0IfNoneIsUnderTrees();
        countedFiveAtMost();
        countedIs0To28();
        forgetLeavesNothing();
        mayBeWithNothingCounted();
        mayBeIsOneAndTheSameSun();
        mayBeIsAsItIsNow();
        oddsBy0To10();
        oddsOfNobody();
        oddsInLeastTerms();
        oddsOfSeven();
        swayOnBothSides();
        coolIsTheNearest();
        coolOfSeveralTheLowest();
        coolIsNone();
        darkOfEachCell();
        motionsAre0To2();
        C.end("AskBoundsTest");
    }

    /** "by k (0 .. 9) steps". */
    private static void moversBy0To9Steps() {
        ShadeVotes x = Checks.told("g2 2;t0 1 1 1;p0 1;");
        for (int k = 0; k <= 9; k++) {
            C.due("carried, by steps " + k, x.movers(0, k), 0);
            C.due("never, by steps " + k, x.movers(1, k), NONE);
        }
        for (int k : new int[] {-1, 10, -9, Integer.MIN_VALUE, Integer.MAX_VALUE}) {
            C.due("by steps " + k, x.movers(0, k), BAD);
        }
    }

    /** "some CELL k steps off at most (up, right, down, left)": from each corner to each cell of the greatest land. */
    private static void moversGoJustSoFar() {
        for (int from : new int[] {0, 4, 15, 19}) {
            for (int to = 0; to < 20; to++) {
                int steps = Math.abs(from / 5 - to / 5) + Math.abs(from % 5 - to % 5);
                ShadeVotes x = Checks.told("g5 4;t" + to + " 1 1 1;p" + from + " 1;s9;");
                for (int k = 0; k <= 9; k++) {
                    C.due("from " + from + " to " + to + " by " + k, x.movers(0, k),
                            steps == 0 ? 0 : k < steps ? NONE : 1);
                }
            }
        }
    }

    /** "on the land": the end of a row is not beside the beginning of the next, nor of its own. */
    private static void moversDoNotLeaveTheLand() {
        ShadeVotes next = Checks.told("t3 1 1 1;p2 1;");
        C.due("from 2 to 3 by one step", next.movers(0, 1), NONE);
        C.due("from 2 to 3 by two steps", next.movers(0, 2), NONE);
        C.due("from 2 to 3 by three steps", next.movers(0, 3), 1);
        ShadeVotes around = Checks.told("t0 1 1 1;p2 1;p6 1;");
        C.due("from 2 or 6 to 0 by one step", around.movers(0, 1), NONE);
        C.due("from 2 or 6 to 0 by two steps", around.movers(0, 2), 1);
        // Where he can go by one step all is against it; off the land, or by standing nowhere, it would be even.
        for (int corner = 0; corner < 4; corner++) {
            int across = 3 - corner;
            StringBuilder s = new StringBuilder("g2 2;s9;");
            for (int cell = 0; cell < 4; cell++) {
                s.append('t').append(cell).append(" 1 1 ").append(cell == across ? 1 : 0).append(';');
            }
            ShadeVotes x = Checks.told(s + "p" + corner + " 1;p" + across + " 1;");
            C.due("from corner " + corner + " by no step", x.movers(0, 0), NONE);
            C.due("from corner " + corner + " by one step", x.movers(0, 1), NONE);
            C.due("from corner " + corner + " by two steps", x.movers(0, 2), 1);
        }
    }

    /** "the fewest PEOPLE .. such that it can be CARRIED, if each of these goes .., all others staying". */
    private static void moversAreTheFewest() {
        // Six are against it, five for it: one is enough, whoever of the three he is.
        ShadeVotes x = Checks.told("t0 1 1 1;t1 1 1 0;p1 1;p1 1;p1 4;p0 4;p0 1;");
        C.due("one of three", x.movers(0, 1), 1);
        ShadeVotes heavy = Checks.told("t0 1 1 1;t1 1 1 0;p1 1;p1 1;p1 4;p0 2;");
        C.due("the one that does it alone", heavy.movers(0, 1), 1 << 2);
        ShadeVotes two = Checks.told("t0 1 1 1;t1 1 1 0;p1 2;p1 2;p1 2;p1 2;p0 1;");
        C.due("two of four", two.movers(0, 1), 3);
        ShadeVotes even = Checks.told("t0 1 1 1;t1 1 1 0;p1 2;p1 2;");
        C.due("one makes it even, and even is not more", even.movers(0, 1), 3);
        // Those at 19 can go into the sun, he at 1 to tree 0: it takes all of them, whether seven or six.
        String far = "g5 4;t0 1 1 1;t1 1 1 0;t19 1 1 0;p1 1;";
        C.due("all seven", Checks.told(far + "p19 1;".repeat(6)).movers(0, 1), 127);
        C.due("all six", Checks.told(far + "p19 1;".repeat(5)).movers(0, 1), 63);
    }

    /** "of as few the least". */
    private static void moversOfAsFewAreTheLeast() {
        ShadeVotes x = Checks.told("g2 2;t0 1 1 1;t1 1 1 0;p1 1;p1 2;p1 2;p1 2;p0 4;");
        C.due("without the first, who is too light", x.movers(0, 1), 2);
        ShadeVotes y = Checks.told("g2 2;t0 1 1 1;t1 1 1 0;p1 1;p1 1;p1 1;p1 1;p1 1;p1 1;p1 1;");
        C.due("four of seven", y.movers(0, 1), 15);
        ShadeVotes far = Checks.told("g5 4;t0 1 1 1;t1 1 1 0;p19 1;p1 1;p1 1;p0 1;");
        C.due("the first is too far off", far.movers(0, 1), 2);
    }

    /** MOVERS: nobody is needed; or NONE. */
    private static void moversNobodyOrNone() {
        ShadeVotes x = Checks.told("t0 1 1 1;t1 1 1 0;p0 2;p1 1;");
        C.due("carried as it is", x.movers(0, 9), 0);
        C.due("no tree wants it", x.movers(2, 9), NONE);
        C.due("nobody", Checks.told("t0 1 1 7;").movers(0, 9), NONE);
        C.due("no trees", Checks.told("p0 1;").movers(0, 9), NONE);
        C.due("all into the sun is not more", Checks.told("t0 1 1 0;p0 4;p0 4;").movers(0, 9), NONE);
        C.due("nothing is changed", x.person(0, 0) + x.now(4), 0);
    }

    /** "by how much it has to be PRUNED, so that it is CARRIED: the least so". */
    private static void pruneIsTheLeast() {
        for (int height = 1; height <= 20; height++) {
            // Tree 0 reaches cell 0 while its height is at least the sun.
            ShadeVotes x = Checks.told("g2 2;t2 " + height + " 1 0;t3 1 1 1;p0 1;p3 1;s9;");
            C.due("height " + height + " down to 8", x.prune(0), height < 9 ? 0 : height - 8);
            ShadeVotes y = Checks.told("g2 2;t0 " + height + " 1 0;t1 1 1 1;p0 1;p1 1;s1;");
            C.due("height " + height + " down to 0", y.prune(0), height);
        }
    }

    /** "of several the lowest TREE". */
    private static void pruneOfSeveralTheLowestTree() {
        ShadeVotes x = Checks.told("t0 5 1 1;t1 7 1 0;t2 7 1 0;p0 2;p1 1;p2 1;");
        C.due("trees 1 and 2 by 7", x.prune(0), 107);
        x.prunes(2, 1);
        C.due("tree 2 by 6", x.prune(0), 206);
        x.prunes(1, 1);
        C.due("trees 1 and 2 by 6", x.prune(0), 106);
    }

    /** "100 times the TREE and how much": from the least to the most that it can be. */
    private static void pruneTellsTreeAndHowMuch() {
        C.due("tree 0 by 1", Checks.told("t0 1 1 0;t1 1 1 1;p0 1;p1 1;").prune(0), 1);
        C.due("tree 0 by 20", Checks.told("t0 20 1 0;t1 1 1 1;p0 1;p1 1;").prune(0), 20);
        C.due("tree 4 by 1", Checks.told("t8 0 1 0;t7 0 1 0;t6 0 1 0;t1 1 1 1;t0 1 1 0;p0 1;p1 1;").prune(0), 401);
        C.due("tree 4 by 20", Checks.told("t8 0 1 0;t7 0 1 0;t6 0 1 0;t1 1 1 1;t0 20 1 0;p0 1;p1 1;").prune(0), 420);
        C.due("down to as high as a lower number",
                Checks.told("g2 2;t0 3 1 1;t2 5 1 0;p0 1;s1;").prune(0), 102);
    }

    /** "0: it is as it is". */
    private static void pruneIs0AsItIs() {
        C.due("carried", Checks.told("t0 5 1 1;t1 5 1 0;p0 2;p1 1;").prune(0), 0);
        C.due("even", Checks.told("t0 5 1 1;t1 5 1 0;p0 1;p1 1;").prune(0), 105);
    }

    private static void pruneIsNone() {
        C.due("no trees", Checks.told("p0 1;").prune(0), NONE);
        C.due("nobody", Checks.told("t0 5 1 0;").prune(0), NONE);
        C.due("no one tree does it", Checks.told("t0 5 1 0;t1 5 1 0;t2 5 1 1;p0 1;p1 1;p2 1;").prune(0), NONE);
        C.due("into the sun is not more", Checks.told("t0 5 1 0;p0 1;").prune(0), NONE);
        ShadeVotes x = Checks.told("t0 5 1 1;t1 5 1 0;p0 1;p1 1;");
        x.prune(0);
        C.due("nothing is changed", x.tree(1, 1), 5);
        C.due("nothing is done", x.undo(), STATE);
    }

    /** "by HEIGHT n (1 .. 20 ..)": reaching a cell three rows off by sun 5 takes 15. */
    private static void plantOfHeight1To20() {
        ShadeVotes x = Checks.told("g2 4;t0 0 1 0;t2 0 1 0;t4 0 1 0;p0 1;s5;");
        for (int n = 1; n <= 20; n++) {
            C.due("height " + n, x.plant(0, n), n < 15 ? NONE : 6);
        }
        for (int n : new int[] {0, 21, -1, Integer.MIN_VALUE, Integer.MAX_VALUE}) {
            C.due("height " + n, x.plant(0, n), BAD);
        }
        C.due("nothing is changed", x.now(3), 3);
        C.due("nothing is done", x.now(4), 0);
        C.due("height 1 at his cell", Checks.told("p8 1;").plant(2, 1), 8);
    }

    /** "the first CELL without a TREE": not at one of height 0, nor at a stump; carried already or not. */
    private static void plantAtTheFirstCellWithoutATree() {
        ShadeVotes x = Checks.told("g2 3;t0 0 1 0;p0 1;s1;");
        C.due("behind a tree of no height", x.plant(0, 20), 2);
        x.fells(0);
        C.due("behind a stump", x.plant(0, 20), 2);
        C.due("the first cell", Checks.told("g2 2;p0 1;p2 1;p3 1;s1;").plant(0, 20), 0);
        C.due("carried already", Checks.told("g2 2;t0 1 1 1;p0 1;").plant(0, 1), 1);
        C.due("carried already, but no cell is left",
                Checks.told("g2 2;t0 1 1 1;t1 1 1 1;t2 1 1 1;t3 1 1 1;p0 1;").plant(0, 1), NONE);
        C.due("the last cell", Checks.told("g5 4;p19 1;").plant(0, 20), 19);
    }

    /** "of the highest number": of trees as high it is not the one that he is under. */
    private static void plantIsOfTheHighestNumber() {
        for (int n = 1; n <= 20; n++) {
            ShadeVotes x = Checks.told("g2 2;t0 10 1 0;p0 1;s1;");
            C.due("height " + n + " over one of 10", x.plant(0, n), n > 10 ? 2 : NONE);
        }
    }

    /** "EVERGREEN, WANTING just that MOTION". */
    private static void plantIsEvergreenAndWantsJustThat() {
        ShadeVotes x = Checks.told("p4 1;");
        x.winter(1);
        for (int m = 0; m <= 2; m++) {
            C.due("in winter, motion " + m, x.plant(m, 1), 4);
        }
    }

    /** "more than 5 or not". */
    private static void plantIsOneMoreThanFive() {
        ShadeVotes x = Checks.told("g3 2;t0 2 1 0;t1 1 0 0;t2 1 0 0;t3 1 0 0;t4 1 0 0;p5 4;p0 3;");
        C.due("five trees", x.now(3), 5);
        C.due("a sixth", x.plant(1, 1), 5);
        C.due("still five", x.now(3), 5);
        C.due("no tree 5", x.tree(5, 0), BAD);
        C.due("plants() has no room even so", x.plants(5, 2), FULL);
        C.due("nor is it of the five", x.person(0, 2), NONE);
        C.due("asked again", x.plant(1, 1), 5);
    }

    private static void plantIsNone() {
        C.due("nobody", new ShadeVotes().plant(0, 20), NONE);
        C.due("too many against", Checks.told("t4 20 1 0;p4 4;p0 1;").plant(0, 1), NONE);
        C.due("even is not more", Checks.told("t4 20 1 0;p4 1;p0 1;").plant(0, 1), NONE);
    }

    /** "SUNS (1 .. 9, as bits 0 .. 8) by which it is CARRIED". */
    private static void sunsAreNineBits() {
        for (int height = 0; height <= 20; height++) {
            // One row off he is in its shade by suns up to its height.
            ShadeVotes x = Checks.told("g2 2;t2 " + height + " 1 1;p0 1;");
            int due = (1 << Math.min(height, 9)) - 1;
            C.due("suns of height " + height, x.suns(0), due);
            ShadeVotes y = Checks.told("g2 2;t2 " + height + " 1 0;t3 1 1 1;p0 1;p3 1;s7;");
            C.due("suns against height " + height, y.suns(0), 511 - due);
            C.due("the sun stays", y.now(1), 7);
        }
        C.due("none", new ShadeVotes().suns(0), 0);
        C.due("even is not more", Checks.told("t0 1 1 1;t1 1 1 0;p0 1;p1 1;").suns(0), 0);
    }

    /** "between columns c less 1 and c (1 .. w less 1)". */
    private static void hedgeAtEachColumn() {
        for (int w = 2; w <= 5; w++) {
            for (int c = 1; c < w; c++) {
                ShadeVotes x = Checks.told("g" + w + " 2;t" + (c - 1) + " 1 1 1;t" + (w + c) + " 1 1 1;p" + (c - 1)
                        + " 1;p" + (w + c) + " 1;");
                C.due("hedge at " + c + " of " + w, x.hedge(0), c);
            }
        }
    }

    /** "the first c". */
    private static void hedgeIsTheFirst() {
        C.due("of 1 to 4", Checks.told("g5 2;t0 1 1 1;t4 1 1 1;p0 1;p4 1;").hedge(0), 1);
        C.due("of 2 to 4", Checks.told("g5 2;t1 1 1 1;t4 1 1 1;p1 1;p4 1;").hedge(0), 2);
        C.due("of 2 and 3, by one against at 0",
                Checks.told("g4 2;t0 1 1 0;t1 1 1 1;t3 1 1 1;p0 1;p1 2;p3 1;").hedge(0), 2);
    }

    /** "by which it is CARRIED both west and east of it, of those who are there alone; NONE". */
    private static void hedgeIsNone() {
        C.due("nobody", new ShadeVotes().hedge(0), NONE);
        C.due("all in one column", Checks.told("g5 2;t2 1 1 1;t7 1 1 1;p2 4;p7 4;").hedge(0), NONE);
        C.due("even in the east", Checks.told("g2 2;t0 1 1 1;t1 1 1 1;t3 1 1 0;p0 1;p1 1;p3 1;").hedge(0), NONE);
        C.due("even in the west", Checks.told("g2 2;t1 1 1 1;t0 1 1 1;t2 1 1 0;p1 1;p0 1;p2 1;").hedge(0), NONE);
        C.due("more in both", Checks.told("g2 2;t1 1 1 1;t0 1 1 1;t2 1 1 0;p1 1;p0 2;p2 1;").hedge(0), 1);
        C.due("carried west alone", Checks.told("g2 2;t0 1 1 1;t1 1 1 0;p0 4;p1 1;").hedge(0), NONE);
        C.due("carried east alone", Checks.told("g2 2;t0 1 1 0;t1 1 1 1;p0 1;p1 4;").hedge(0), NONE);
    }

    /** "a hundred times the WEIGHT under it by all WEIGHT under TREES (cut ..)". */
    private static void shareIsCut() {
        for (int a = 1; a <= 4; a++) {
            for (int b = 1; b <= 4; b++) {
                ShadeVotes x = Checks.told("t0 1 1 1;t1 1 1 1;t2 1 1 1;p0 " + a + ";p1 " + b + ";p8 4;");
                C.due("share of " + a + " by " + b, x.share(0), 100 * a / (a + b));
                C.due("share of " + b + " by " + a, x.share(1), 100 * b / (a + b));
                C.due("share of nobody", x.share(2), 0);
            }
        }
        C.due("of 1 in 24", Checks.told("t0 1 1 1;t1 1 1 1;p0 1;p1 4;p1 4;p1 4;p1 4;p1 4;p1 3;").share(0), 4);
        C.due("all", Checks.told("t0 1 1 0;p0 1;").share(0), 100);
        ShadeVotes x = Checks.told("t0 1 1 1;t1 1 1 1;p0 1;");
        C.due("tree -1", x.share(-1), BAD);
        C.due("tree 1", x.share(1), 0);
        C.due("tree 2", x.share(2), BAD);
    }

    /** "0, if none is". */
    private static void shareIs0IfNoneIsUnderTrees() {
        C.due("nobody there", Checks.told("t0 1 1 1;").share(0), 0);
        C.due("all in the sun", Checks.told("t0 1 1 1;p8 4;").share(0), 0);
        ShadeVotes x = Checks.told("t0 1 0 1;p0 4;");
        x.winter(1);
        C.due("in winter", x.share(0), 0);
        C.due("no tree", Checks.told("p0 4;").share(0), BAD);
    }

    /** "COUNTED (5 at most)"; promise 23: "how much there is. BAD; FULL." */
    private static void countedFiveAtMost() {
        ShadeVotes x = Checks.told("t0 1 1 1;p0 2;");
        for (int n = 1; n <= 5; n++) {
            C.due("count " + n, x.counted(0, 2), n);
            C.due("how much there is", x.count(3), n);
        }
        C.due("a sixth", x.counted(0, 0), FULL);
        C.due("how much there is still", x.count(3), 5);
        C.due("the sixth does not count", x.mayBe(), 511);
        C.due("forgotten", x.forget(), 5);
        C.due("the first again", x.counted(0, 0), 1);
        C.due("it counts", x.mayBe(), 0);
    }

    /** "FOR a MOTION was v (0 .. 28)". */
    private static void countedIs0To28() {
        for (int v = -2; v <= 30; v++) {
            ShadeVotes x = Checks.told("t0 1 1 1;" + "p0 4;".repeat(7));
            boolean is = v >= 0 && v <= 28;
            C.due("counted " + v, x.counted(0, v), is ? 1 : BAD);
            C.due("how much behind " + v, x.count(3), is ? 1 : 0);
            C.due("may be behind " + v, x.mayBe(), !is || v == 28 ? 511 : 0);
        }
    }

    /** Promise 24: "Nothing was COUNTED: how much there was." */
    private static void forgetLeavesNothing() {
        ShadeVotes x = Checks.told("t0 1 1 1;p0 2;");
        C.due("nothing", x.forget(), 0);
        for (int n = 1; n <= 5; n++) {
            for (int i = 0; i < n; i++) {
                x.counted(1, 28);
            }
            C.due("there was", x.forget(), n);
            C.due("there is", x.count(3), 0);
            C.due("any sun", x.mayBe(), 511);
        }
        C.due("nothing again", x.forget(), 0);
    }

    /** Nothing that was counted is not so: all suns. */
    private static void mayBeWithNothingCounted() {
        C.due("of a new one", new ShadeVotes().mayBe(), 511);
        C.due("of a told one", Checks.told("t0 1 1 1;p0 2;").mayBe(), 511);
        ShadeVotes x = new ShadeVotes();
        x.counted(0, 0);
        C.due("nobody, 0", x.mayBe(), 511);
        x.counted(0, 1);
        C.due("nobody, 1", x.mayBe(), 0);
    }

    /** "at some SUN, one and the same". */
    private static void mayBeIsOneAndTheSameSun() {
        // One row off, person 0 is for motion 0 by suns up to 4, person 1 for motion 1 by suns up to 6.
        ShadeVotes x = Checks.told("g2 2;t2 4 1 1;t3 6 1 2;p0 1;p1 2;s9;");
        x.counted(0, 1);
        C.due("suns 1 to 4", x.mayBe(), 15);
        x.counted(1, 2);
        C.due("suns 1 to 4 still", x.mayBe(), 15);
        x.counted(1, 0);
        C.due("not by one and the same", x.mayBe(), 0);
        x.forget();
        x.counted(0, 0);
        C.due("suns 5 to 9", x.mayBe(), 511 - 15);
        x.counted(1, 2);
        C.due("suns 5 and 6", x.mayBe(), 48);
        C.due("the sun stays", x.now(1), 9);
        C.due("the fifth counts, too", x.counted(2, 0) + x.counted(2, 0) + x.counted(2, 1), 3 + 4 + 5);
        C.due("it can't be", x.mayBe(), 0);
    }

    /** "all else as it is NOW". */
    private static void mayBeIsAsItIsNow() {
        ShadeVotes x = Checks.told("g2 2;t2 4 0 1;p0 1;s9;");
        x.counted(0, 1);
        C.due("as told", x.mayBe(), 15);
        x.grows();
        C.due("grown", x.mayBe(), 31);
        x.winter(1);
        C.due("in winter", x.mayBe(), 0);
        x.undo();
        x.moves(0, 2);
        C.due("moved", x.mayBe(), 511);
        C.due("it stays counted behind undo()", x.count(3), 1);
        x.keep(0);
        x.back(0);
        C.due("and behind back()", x.count(3), 1);
        Checks.tell(x, "g2 2;p0 1;");
        C.due("not if all is told anew", x.count(3), 0);
        C.due("any sun", x.mayBe(), 511);
    }

    private static void odds(String text, int m, int p, int upper, int lower) {
        ShadeVotes x = Checks.told(text);
        C.due("odds upper by " + p + " of " + text, x.odds(m, p, 0), upper);
        C.due("odds lower by " + p + " of " + text, x.odds(m, p, 1), lower);
    }

    /** "ODDS by p (0 .. 10)", "upper (what = 0), lower number (1)". */
    private static void oddsBy0To10() {
        int[] upper = {0, 1, 1, 3, 2, 1, 3, 7, 4, 9, 1};
        int[] lower = {1, 10, 5, 10, 5, 2, 5, 10, 5, 10, 1};
        for (int p = 0; p <= 10; p++) {
            odds("t0 1 1 1;p0 1;", 0, p, upper[p], lower[p]);
        }
        ShadeVotes x = Checks.told("t0 1 1 1;p0 1;");
        for (int wrong : new int[] {-1, 11, Integer.MIN_VALUE, Integer.MAX_VALUE}) {
            C.due("by " + wrong, x.odds(0, wrong, 0), BAD);
        }
        for (int wrong : new int[] {-1, 2, Integer.MIN_VALUE, Integer.MAX_VALUE}) {
            C.due("what " + wrong, x.odds(0, 5, wrong), BAD);
        }
        odds("t0 1 1 1;t1 1 1 0;p0 2;p1 1;", 0, 0, 0, 1);
        odds("t0 1 1 1;t1 1 1 0;p0 2;p1 1;", 0, 10, 1, 1);
        odds("t0 1 1 1;t1 1 1 0;p0 1;p1 1;", 0, 10, 0, 1);
        odds("t0 1 1 1;t1 1 1 0;p0 1;p1 2;", 0, 0, 0, 1);
    }

    /** Nobody comes, so nothing is carried; as a fraction in least terms that is 0 by 1. */
    private static void oddsOfNobody() {
        for (int p = 0; p <= 10; p++) {
            odds("", 0, p, 0, 1);
            odds("t0 1 1 7;", 2, p, 0, 1);
            odds("p0 4;", 1, p, 0, 1);
        }
    }

    /** "in least terms". */
    private static void oddsInLeastTerms() {
        odds("t0 1 1 1;p0 1;p0 1;", 0, 5, 3, 4);
        odds("t0 1 1 1;p0 1;p0 1;", 0, 4, 16, 25);
        odds("t0 1 1 1;p0 1;p0 1;", 0, 3, 51, 100);
        odds("t0 1 1 1;t1 1 1 0;p0 2;p1 1;p1 1;", 0, 5, 3, 8);
        odds("t0 1 1 1;p0 1;p8 1;p8 1;p8 1;", 0, 5, 1, 2);
        ShadeVotes x = Checks.told("g2 2;t0 1 1 1;t1 1 1 0;p0 1;p1 1;p1 1;");
        x.movers(0, 9);
        C.due("behind another question, upper", x.odds(0, 5, 0), 1);
        C.due("behind another question, lower", x.odds(0, 5, 1), 8);
    }

    /** All seven: the greatest numbers that there are. */
    private static void oddsOfSeven() {
        String all = "t0 1 1 1;" + "p0 4;".repeat(7);
        odds(all, 0, 10, 1, 1);
        odds(all, 0, 9, 9999999, 10000000);
        odds(all, 0, 1, 5217031, 10000000);
        odds(all, 0, 5, 127, 128);
        odds(all, 0, 0, 0, 1);
        odds(all, 1, 9, 0, 1);
    }

    /** "PEOPLE (bits) without any one of whom (alone) a MOTION would stand otherwise (CARRIED or not)". */
    private static void swayOnBothSides() {
        for (int yes = 1; yes <= 4; yes++) {
            for (int no = 1; no <= 4; no++) {
                ShadeVotes x = Checks.told("t0 1 1 1;t1 1 1 0;p0 " + yes + ";p1 " + no + ";p8 4;");
                C.due("sway by " + yes + " to " + no, x.sway(0), yes > no ? 1 : 2);
            }
        }
        C.due("either of two is not needed", Checks.told("t0 1 1 1;p0 1;p0 1;").sway(0), 0);
        C.due("neither of two is alone in its way", Checks.told("t0 1 1 1;t1 1 1 0;p0 1;p1 1;p1 1;").sway(0), 0);
        C.due("without him it is even", Checks.told("t0 1 1 1;t1 1 1 0;p0 1;p0 1;p1 1;").sway(0), 3);
        C.due("all seven", Checks.told("t0 1 1 1;t1 1 1 0;p0 2;p0 2;p0 2;p0 2;p1 2;p1 3;p1 2;").sway(0), 15);
        C.due("the seventh", Checks.told("t0 1 1 1;t1 1 1 0;p0 1;p0 1;p0 1;p0 1;p0 1;p1 1;p1 4;").sway(0), 96);
        C.due("nobody", new ShadeVotes().sway(0), 0);
    }

    /** "the CELL that is a PERSON's nearest (by steps) in some SHADE (his own, too)". */
    private static void coolIsTheNearest() {
        for (int from = 0; from < 20; from++) {
            for (int to = 0; to < 20; to++) {
                ShadeVotes x = Checks.told("g5 4;t" + to + " 1 1 1;p" + from + " 1;");
                C.due("cool from " + from + " to " + to, x.cool(0), to);
            }
        }
        ShadeVotes x = Checks.told("t8 1 1 1;t0 1 1 1;p8 1;p5 1;p1 1;");
        C.due("his own", x.cool(0), 8);
        C.due("one step ahead of three", x.cool(1), 8);
        C.due("the other one", x.cool(2), 0);
        C.due("nobody moves", x.person(1, 0), 5);
        C.due("person -1", x.cool(-1), BAD);
        C.due("person 3", x.cool(3), BAD);
        ShadeVotes row = Checks.told("t3 1 1 1;t0 1 1 1;p2 1;");
        C.due("the next cell by number is three steps off", row.cool(0), 0);
    }

    /** "of several the lowest": each of the cells beside the middle, of all that are left. */
    private static void coolOfSeveralTheLowest() {
        ShadeVotes x = Checks.told("t7 1 1 1;t5 1 1 1;t3 1 1 1;t1 1 1 1;p4 1;");
        C.due("1, 3, 5, 7", x.cool(0), 1);
        x.fells(3);
        C.due("3, 5, 7", x.cool(0), 3);
        x.fells(2);
        C.due("5, 7", x.cool(0), 5);
        x.fells(1);
        C.due("7", x.cool(0), 7);
        x.fells(0);
        C.due("nothing", x.cool(0), NONE);
    }

    private static void coolIsNone() {
        C.due("no trees", Checks.told("p0 1;").cool(0), NONE);
        C.due("of no height", Checks.told("t0 0 1 1;p0 1;").cool(0), NONE);
        ShadeVotes x = Checks.told("t0 5 0 1;p0 1;");
        x.winter(1);
        C.due("in winter", x.cool(0), NONE);
        C.due("nobody", Checks.told("t0 1 1 1;").cool(0), BAD);
    }

    /** "DARK of a CELL: how many TREES' SHADES it is in." */
    private static void darkOfEachCell() {
        ShadeVotes x = Checks.told("g5 4;t19 20 1 1;t14 20 1 1;t9 20 1 1;t4 20 1 1;t0 20 1 1;s1;");
        for (int cell = 0; cell < 20; cell++) {
            int due = cell % 5 == 4 ? 4 - cell / 5 : cell == 0 ? 1 : 0;
            C.due("dark of " + cell, x.dark(cell), due);
        }
        for (int wrong : new int[] {-1, 20, Integer.MIN_VALUE, Integer.MAX_VALUE}) {
            C.due("dark of " + wrong, x.dark(wrong), BAD);
        }
        C.due("the last cell of the least land", Checks.told("g2 2;t3 1 1 1;").dark(3), 1);
        C.due("one more than it has", Checks.told("g2 2;t3 1 1 1;").dark(4), BAD);
    }

    /** MOTIONS 0 .. 2 in each call that asks for one. */
    private static void motionsAre0To2() {
        ShadeVotes x = Checks.told("g2 2;t0 1 1 7;t1 1 1 7;p0 1;p1 1;");
        for (int m : new int[] {0, 1, 2}) {
            C.due("movers", x.movers(m, 0), 0);
            C.due("prune", x.prune(m), 0);
            C.due("plant", x.plant(m, 1), 2);
            C.due("suns", x.suns(m), 511);
            C.due("hedge", x.hedge(m), 1);
            C.due("odds", x.odds(m, 10, 0), 1);
            C.due("sway", x.sway(m), 0);
            C.due("counted", x.counted(m, 2), m + 1);
        }
        for (int m : new int[] {-1, 3, 32, Integer.MIN_VALUE, Integer.MAX_VALUE}) {
            C.due("movers", x.movers(m, 0), BAD);
            C.due("prune", x.prune(m), BAD);
            C.due("plant", x.plant(m, 1), BAD);
            C.due("suns", x.suns(m), BAD);
            C.due("hedge", x.hedge(m), BAD);
            C.due("odds", x.odds(m, 10, 0), BAD);
            C.due("sway", x.sway(m), BAD);
            C.due("counted", x.counted(m, 2), BAD);
        }
        C.due("what was counted", x.count(3), 3);
    }
}

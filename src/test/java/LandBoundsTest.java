import java.util.List;

/** Each sentence of the document's section 2 (and promises 5 to 16) that names a bound, on both sides of it. */
public final class LandBoundsTest {
    private static final int BAD = -1, STATE = -2, FULL = -3, NONE = -9;
    private static final Checks C = new Checks();

    public static void main(String[] args) {
        shadeIsHeightBySunCut();
        shadeGoesAsFarAsTheLand();
        noShadeOfHeight0();
        noShadeInWinterButOfEvergreens();
        underTheHighest();
        underTheLowestOfSuchThatAreAsHigh();
        underNone();
        forAndAgainst();
        carriedIsMoreNotAsMuch();
        movedOffTheLand();
        movedByFourWays();
        prunedBy1To20();
        prunedToZeroAtLeast();
        grownTo20AtMost();
        theDayIs999AtMost();
        plantedIsLowAndNotEvergreen();
        plantedAtACellWithATree();
        plantedSixth();
        plantedWants();
        felledForGood();
        felledAgain();
        winterComesAndGoes();
        sunBecomesAnother();
        tenAreKnownToBeUndone();
        olderOnesAreLost();
        eachKindIsUndone();
        refusedOnesAreNotUndone();
        questionsAreNotUndone();
        whatMayBeAskedOfEach();
        C.end("LandBoundsTest");
    }

    /** "its CELL and so many due north of it as HEIGHT by SUN (cut)". */
    private static void shadeIsHeightBySunCut() {
        for (int height = 0; height <= 20; height++) {
            for (int sun = 1; sun <= 9; sun++) {
                ShadeVotes x = Checks.told("g5 4;t17 " + height + " 0 1;s" + sun + ";");
                int due = height == 0 ? 0 : 1 << 17;
                due |= height >= sun ? 1 << 12 : 0;
                due |= height >= 2 * sun ? 1 << 7 : 0;
                due |= height >= 3 * sun ? 1 << 2 : 0;
                C.due("shade of height " + height + " by sun " + sun, x.tree(0, 4), due);
            }
        }
    }

    /** "as far as the land goes": of the highest tree by the lowest sun, at each cell of each land. */
    private static void shadeGoesAsFarAsTheLand() {
        for (int w = 2; w <= 5; w++) {
            for (int h = 2; h <= 4; h++) {
                for (int row = 0; row < h; row++) {
                    for (int column = 0; column < w; column++) {
                        int due = 0;
                        for (int north = 0; north <= row; north++) {
                            due |= 1 << north * w + column;
                        }
                        String text = "g" + w + " " + h + ";t" + (row * w + column) + " 20 1 1;s1;";
                        C.due("shade of " + text, Checks.told(text).tree(0, 4), due);
                    }
                }
            }
        }
    }

    /** "none with HEIGHT 0", of a tree that is told so, that is pruned so, that is felled. */
    private static void noShadeOfHeight0() {
        ShadeVotes x = Checks.told("t4 0 1 1;t3 1 1 1;t5 1 1 1;p4 1;p3 1;p5 1;");
        C.due("told so", x.tree(0, 4), 0);
        C.due("nobody is under it", x.person(0, 2), NONE);
        C.due("its cell is not dark", x.dark(4), 0);
        C.due("height 1 shades", x.tree(1, 4), 1 << 3);
        x.prunes(1, 1);
        C.due("pruned so", x.tree(1, 4), 0);
        C.due("nobody is under that", x.person(1, 2), NONE);
        x.fells(2);
        C.due("felled", x.tree(2, 4), 0);
        C.due("nobody is under a stump", x.person(2, 2), NONE);
        C.due("nobody votes", x.motion(0, 0) + x.motion(0, 1), 0);
    }

    /** "none of one that is not EVERGREEN in WINTER". */
    private static void noShadeInWinterButOfEvergreens() {
        ShadeVotes x = Checks.told("t7 3 1 1;t8 3 0 1;p4 1;p5 2;");
        C.due("evergreen in summer", x.tree(0, 4), 1 << 7 | 1 << 4);
        C.due("not evergreen in summer", x.tree(1, 4), 1 << 8 | 1 << 5);
        x.winter(1);
        C.due("evergreen in winter", x.tree(0, 4), 1 << 7 | 1 << 4);
        C.due("not evergreen in winter", x.tree(1, 4), 0);
        C.due("for in winter", x.motion(0, 0), 1);
        x.winter(0);
        C.due("not evergreen in summer again", x.tree(1, 4), 1 << 8 | 1 << 5);
        C.due("for in summer again", x.motion(0, 0), 3);
    }

    /** "of several the one of greatest HEIGHT": of two in a column, by each pair of heights, of such the lowest. */
    private static void underTheHighest() {
        for (int first = 0; first <= 20; first++) {
            for (int second = 0; second <= 20; second++) {
                ShadeVotes x = Checks.told("g2 2;t0 " + first + " 1 1;t2 " + second + " 1 2;p0 1;s1;");
                int due = first == 0 && second == 0 ? NONE : second > first ? 1 : 0;
                C.due("under heights " + first + ", " + second, x.person(0, 2), due);
            }
        }
    }

    private static void underTheLowestOfSuchThatAreAsHigh() {
        ShadeVotes x = Checks.told("g5 4;t17 9 1 1;t12 9 1 1;t7 9 1 1;t2 9 1 1;p2 1;p7 1;s3;");
        C.due("of four the lowest", x.person(0, 2), 0);
        x.fells(0);
        C.due("of three the lowest", x.person(0, 2), 1);
        x.prunes(1, 1);
        C.due("of two the lowest", x.person(0, 2), 2);
        x.prunes(2, 1);
        C.due("the highest", x.person(0, 2), 3);
        C.due("he is not in its shade", x.person(1, 2), 1);
        ShadeVotes far = Checks.told("g2 4;t6 20 1 1;t4 2 1 1;p0 1;s9;");
        C.due("a shade of two rows", far.tree(0, 4), 1 << 6 | 1 << 4 | 1 << 2);
        C.due("is one row short", far.person(0, 2), NONE);
    }

    /** "or under none". */
    private static void underNone() {
        ShadeVotes x = Checks.told("t4 20 1 7;p0 4;p7 4;p5 4;p3 4;s1;");
        for (int p = 0; p < 4; p++) {
            C.due("beside, south", x.person(p, 2), NONE);
        }
        C.due("for", x.motion(0, 0), 0);
        C.due("against", x.motion(0, 1), 0);
        C.due("not carried", x.motion(0, 2), 0);
        C.due("nobody there at all", new ShadeVotes().motion(2, 2), 0);
    }

    /** "FOR: the WEIGHT of all under TREES that WANT it; AGAINST: of all under those that do not." */
    private static void forAndAgainst() {
        ShadeVotes most = Checks.told("t0 1 1 5;" + "p0 4;".repeat(7));
        C.due("all for 0", most.motion(0, 0), 28);
        C.due("none against 0", most.motion(0, 1), 0);
        C.due("none for 1", most.motion(1, 0), 0);
        C.due("all against 1", most.motion(1, 1), 28);
        C.due("all for 2", most.motion(2, 0), 28);
    }

    /** "CARRIED: FOR is more". */
    private static void carriedIsMoreNotAsMuch() {
        for (int yes = 1; yes <= 4; yes++) {
            for (int no = 1; no <= 4; no++) {
                ShadeVotes x = Checks.told("t0 1 1 4;t1 1 1 3;p0 " + yes + ";p1 " + no + ";");
                C.due("carried by " + yes + " to " + no, x.motion(2, 2), yes > no ? 1 : 0);
                C.due("carried by " + no + " to " + yes, x.motion(0, 2), no > yes ? 1 : 0);
            }
        }
    }

    /** "MOVED": "STATE: off the land", at each cell of each land. */
    private static void movedOffTheLand() {
        for (int w = 2; w <= 5; w++) {
            for (int h = 2; h <= 4; h++) {
                for (int row = 0; row < h; row++) {
                    for (int column = 0; column < w; column++) {
                        int cell = row * w + column;
                        String text = "g" + w + " " + h + ";p" + cell + " 2;";
                        goes(text, 0, cell, row > 0 ? cell - w : STATE);
                        goes(text, 1, cell, column < w - 1 ? cell + 1 : STATE);
                        goes(text, 2, cell, row < h - 1 ? cell + w : STATE);
                        goes(text, 3, cell, column > 0 ? cell - 1 : STATE);
                    }
                }
            }
        }
    }

    private static void goes(String text, int way, int from, int due) {
        ShadeVotes x = Checks.told(text);
        C.due("way " + way + " of " + text, x.moves(0, way), due);
        C.due("cell behind way " + way + " of " + text, x.person(0, 0), due == STATE ? from : due);
        C.due("to undo behind way " + way + " of " + text, x.now(4), due == STATE ? 0 : 1);
        C.due("weight behind way " + way + " of " + text, x.person(0, 1), 2);
    }

    /** "up (0), right (1), down (2), left (3)". */
    private static void movedByFourWays() {
        ShadeVotes x = Checks.told("p4 1;p4 1;");
        C.due("way -1", x.moves(0, -1), BAD);
        C.due("up", x.moves(0, 0), 1);
        C.due("right", x.moves(0, 1), 2);
        C.due("down", x.moves(0, 2), 5);
        C.due("left", x.moves(0, 3), 4);
        C.due("way 4", x.moves(0, 4), BAD);
        C.due("the other stays", x.person(1, 0), 4);
        C.due("person -1", x.moves(-1, 0), BAD);
        C.due("person 1", x.moves(1, 0), 1);
        C.due("person 2", x.moves(2, 0), BAD);
    }

    /** "a TREE is n (1 .. 20) lower". */
    private static void prunedBy1To20() {
        for (int n = 1; n <= 20; n++) {
            ShadeVotes x = Checks.told("t4 20 1 1;t5 20 1 1;");
            C.due("pruned by " + n, x.prunes(0, n), 20 - n);
            C.due("height", x.tree(0, 1), 20 - n);
            C.due("the other stays", x.tree(1, 1), 20);
        }
        ShadeVotes x = Checks.told("t4 20 1 1;");
        for (int n : new int[] {0, 21, -1, -20, Integer.MIN_VALUE, Integer.MAX_VALUE}) {
            C.due("pruned by " + n, x.prunes(0, n), BAD);
            C.due("height behind " + n, x.tree(0, 1), 20);
            C.due("to undo behind " + n, x.now(4), 0);
        }
    }

    /** "(0 at least)". */
    private static void prunedToZeroAtLeast() {
        for (int height = 0; height <= 20; height++) {
            for (int n = 1; n <= 20; n++) {
                ShadeVotes x = Checks.told("t4 " + height + " 1 1;");
                C.due("height " + height + " pruned by " + n, x.prunes(0, n), n >= height ? 0 : height - n);
                C.due("it is no stump", x.tree(0, 5), 0);
            }
        }
        ShadeVotes x = Checks.told("t4 2 1 1;");
        x.prunes(0, 20);
        x.grows();
        C.due("from 0 it grows to 1", x.tree(0, 1), 1);
    }

    /** "all TREES are 1 higher (20 at most)". */
    private static void grownTo20AtMost() {
        for (int height = 0; height <= 20; height++) {
            ShadeVotes x = Checks.told("t4 " + height + " 1 1;t5 " + (20 - height) + " 0 1;");
            C.due("day 1", x.grows(), 1);
            C.due("grown from " + height, x.tree(0, 1), height == 20 ? 20 : height + 1);
            C.due("grown from " + (20 - height), x.tree(1, 1), height == 0 ? 20 : 21 - height);
            x.undo();
            C.due("undone to " + height, x.tree(0, 1), height);
        }
        ShadeVotes x = Checks.told("t4 18 1 1;");
        for (int day = 1; day <= 30; day++) {
            C.due("the day is the next even so", x.grows(), day);
            C.due("height on day " + day, x.tree(0, 1), day == 1 ? 19 : 20);
        }
        C.due("without trees", new ShadeVotes().grows(), 1);
    }

    /** "the DAY is the next (999 at most)": farther than 512 calls go, but the document tells it. */
    private static void theDayIs999AtMost() {
        ShadeVotes x = Checks.told("t4 3 1 1;");
        for (int day = 1; day <= 998; day++) {
            x.grows();
        }
        x.prunes(0, 20);
        C.due("to day 999", x.grows(), 999);
        C.due("behind day 999", x.grows(), STATE);
        C.due("day", x.now(0), 999);
        C.due("it did not grow, either", x.tree(0, 1), 1);
        C.due("of day 999 an image", x.keep(0), 999);
        C.due("undone", x.undo(), 9);
        C.due("day 998", x.now(0), 998);
        C.due("back to day 999", x.back(0), 999);
        C.due("behind it again", x.grows(), STATE);
    }

    /** "PLANTED: a TREE more (HEIGHT 1, not EVERGREEN, it WANTS what is told)". */
    private static void plantedIsLowAndNotEvergreen() {
        ShadeVotes x = Checks.told("p4 3;s1;");
        C.due("its number", x.plants(4, 5), 0);
        C.due("trees", x.now(3), 1);
        C.due("cell", x.tree(0, 0), 4);
        C.due("height", x.tree(0, 1), 1);
        C.due("not evergreen", x.tree(0, 2), 0);
        C.due("wants", x.tree(0, 3), 5);
        C.due("shade", x.tree(0, 4), 1 << 4 | 1 << 1);
        C.due("no stump", x.tree(0, 5), 0);
        C.due("for", x.motion(2, 0), 3);
        x.winter(1);
        C.due("no shade in winter", x.tree(0, 4), 0);
        C.due("the next number", x.plants(0, 0), 1);
    }

    /** "at a CELL without one", "STATE: there is one": told, planted, of no height, a stump. */
    private static void plantedAtACellWithATree() {
        ShadeVotes x = Checks.told("t4 0 1 1;t5 3 1 1;p0 1;");
        C.due("at a told one of no height", x.plants(4, 1), STATE);
        C.due("where a person is", x.plants(0, 1), 2);
        C.due("at a planted one", x.plants(0, 1), STATE);
        x.fells(1);
        C.due("at a stump", x.plants(5, 1), STATE);
        C.due("trees", x.now(3), 3);
        C.due("to undo", x.now(4), 2);
        x.undo();
        x.undo();
        C.due("where the planting was undone", x.plants(0, 2), 2);
        C.due("cell -1", x.plants(-1, 0), BAD);
        C.due("cell 9", x.plants(9, 0), BAD);
    }

    /** FULL: a sixth. */
    private static void plantedSixth() {
        ShadeVotes x = new ShadeVotes();
        for (int t = 0; t < 5; t++) {
            C.due("tree " + t, x.plants(8 - t, 0), t);
        }
        C.due("a sixth", x.plants(0, 0), FULL);
        C.due("trees", x.now(3), 5);
        C.due("tree 5", x.tree(5, 0), BAD);
        C.due("to undo", x.now(4), 5);
        C.due("its cell is free", x.dark(0), 0);
        x.fells(4);
        C.due("a stump makes no room", x.plants(0, 0), FULL);
        x.undo();
        x.undo();
        C.due("but undoing does", x.plants(0, 7), 4);
        C.due("its cell", x.tree(4, 0), 0);
        C.due("its height", x.tree(4, 1), 1);
        C.due("full again", x.plants(4, 0), FULL);
        C.due("there is one", x.plants(0, 0), STATE);
    }

    /** "what is told": three bits. */
    private static void plantedWants() {
        for (int wants = 0; wants <= 7; wants++) {
            ShadeVotes x = new ShadeVotes();
            C.due("wants " + wants, x.plants(3, wants), 0);
            C.due("it wants", x.tree(0, 3), wants);
        }
        ShadeVotes x = new ShadeVotes();
        C.due("wants -1", x.plants(3, -1), BAD);
        C.due("wants 8", x.plants(3, 8), BAD);
        C.due("no tree", x.now(3), 0);
    }

    /** "its HEIGHT is 0 for good (it stays 0 by GROWN, too; a STUMP)". */
    private static void felledForGood() {
        for (int height = 0; height <= 20; height++) {
            ShadeVotes x = Checks.told("t4 " + height + " 1 6;p4 1;");
            C.due("its height till then", x.fells(0), height);
            C.due("height", x.tree(0, 1), 0);
            C.due("felled", x.tree(0, 5), 1);
            C.due("cell stays", x.tree(0, 0), 4);
            C.due("evergreen stays", x.tree(0, 2), 1);
            C.due("wants stay", x.tree(0, 3), 6);
            for (int i = 0; i < 25; i++) {
                x.grows();
                C.due("height of a stump", x.tree(0, 1), 0);
            }
            C.due("pruned", x.prunes(0, 20), 0);
            C.due("still felled", x.tree(0, 5), 1);
            C.due("trees", x.now(3), 1);
        }
        ShadeVotes x = Checks.told("t4 9 1 6;");
        x.fells(0);
        x.keep(0);
        x.undo();
        C.due("undone", x.tree(0, 1), 9);
        C.due("not felled", x.tree(0, 5), 0);
        x.grows();
        C.due("it grows again", x.tree(0, 1), 10);
        x.back(0);
        x.grows();
        C.due("an image keeps stumps", x.tree(0, 1), 0);
    }

    /** "STATE: it was." */
    private static void felledAgain() {
        ShadeVotes x = Checks.told("t4 9 1 6;t5 0 1 1;");
        C.due("tree -1", x.fells(-1), BAD);
        C.due("tree 2", x.fells(2), BAD);
        C.due("felled", x.fells(0), 9);
        C.due("again", x.fells(0), STATE);
        C.due("of height 0 it was not", x.fells(1), 0);
        C.due("then it was", x.fells(1), STATE);
        C.due("to undo", x.now(4), 2);
        x.undo();
        C.due("then it was not", x.fells(1), 0);
    }

    /** Promise 14: "WINTER comes (1), goes (0): whether it was. BAD." */
    private static void winterComesAndGoes() {
        ShadeVotes x = new ShadeVotes();
        C.due("-1", x.winter(-1), BAD);
        C.due("goes in summer", x.winter(0), 0);
        C.due("comes", x.winter(1), 0);
        C.due("it is winter", x.now(2), 1);
        C.due("comes in winter", x.winter(1), 1);
        C.due("2", x.winter(2), BAD);
        C.due("still winter", x.now(2), 1);
        C.due("goes", x.winter(0), 1);
        C.due("it is summer", x.now(2), 0);
        C.due("each may be undone", x.now(4), 4);
    }

    /** Promise 15: "SUN becomes another one: what it was. BAD." */
    private static void sunBecomesAnother() {
        ShadeVotes x = new ShadeVotes();
        int was = 3;
        for (int s = 1; s <= 9; s++) {
            C.due("sun " + s, x.sun(s), was);
            C.due("it is " + s, x.now(1), s);
            was = s;
        }
        for (int s : new int[] {0, 10, -1, -9, Integer.MIN_VALUE, Integer.MAX_VALUE}) {
            C.due("sun " + s, x.sun(s), BAD);
            C.due("it stays 9", x.now(1), 9);
        }
        C.due("each may be undone", x.now(4), 9);
        C.due("as it is", x.sun(9), 9);
        C.due("that, too", x.now(4), 10);
    }

    /** "10 are known". */
    private static void tenAreKnownToBeUndone() {
        ShadeVotes x = new ShadeVotes();
        for (int n = 1; n <= 10; n++) {
            x.grows();
            C.due("known", x.now(4), n);
        }
        for (int n = 9; n >= 0; n--) {
            C.due("how many more", x.undo(), n);
            C.due("day", x.now(0), n);
            C.due("how many may be", x.now(4), n);
        }
        C.due("none", x.undo(), STATE);
        C.due("day 0", x.now(0), 0);
        C.due("still none", x.undo(), STATE);
    }

    /** "older ones are lost": with one, with ten, with many more than ten. */
    private static void olderOnesAreLost() {
        for (int older : new int[] {1, 2, 9, 10, 11, 25}) {
            ShadeVotes x = new ShadeVotes();
            for (int n = 1; n <= 10 + older; n++) {
                C.due("day", x.grows(), n);
                C.due("known", x.now(4), Math.min(n, 10));
            }
            for (int n = 9; n >= 0; n--) {
                C.due("how many more", x.undo(), n);
                C.due("day", x.now(0), n + older);
            }
            C.due("lost", x.undo(), STATE);
            C.due("day stays", x.now(0), older);
            x.grows();
            C.due("and one is known again", x.undo(), 0);
            C.due("that one", x.now(0), older);
        }
    }

    /** "the latest moves(), prunes(), grows(), plants(), fells(), winter(), sun()". */
    private static void eachKindIsUndone() {
        String text = "t4 7 1 1;t5 20 0 6;p4 2;p5 1;s3;";
        undoes("moves", text, x -> x.moves(0, 1));
        undoes("prunes", text, x -> x.prunes(0, 20));
        undoes("prunes by 1", text, x -> x.prunes(1, 1));
        undoes("grows", text, x -> x.grows());
        undoes("plants", text, x -> x.plants(0, 7));
        undoes("fells", text, x -> x.fells(1));
        undoes("winter", text, x -> x.winter(1));
        undoes("sun", text, x -> x.sun(9));
    }

    private static void undoes(String name, String text, Stage.Step step) {
        ShadeVotes x = Checks.told(text);
        List<Long> before = Eyes.look(x);
        C.holds(name + " is not refused", step.on(x) >= 0);
        C.holds(name + " changes something", !Eyes.look(x).equals(before));
        C.due(name + " undone", x.undo(), 0);
        C.holds(name + " is undone wholly", Eyes.look(x).equals(before));
        C.due(name + " is undone once", x.undo(), STATE);
    }

    /** "that was not refused". */
    private static void refusedOnesAreNotUndone() {
        ShadeVotes x = Checks.told("g2 2;t0 4 1 1;p0 1;");
        x.fells(0);
        Stage.Step[] refused = {y -> y.moves(0, 0), y -> y.moves(0, 3), y -> y.moves(1, 0), y -> y.moves(0, 4),
            y -> y.prunes(0, 0), y -> y.prunes(1, 1), y -> y.plants(0, 1), y -> y.plants(4, 1), y -> y.plants(1, 8),
            y -> y.fells(0), y -> y.fells(1), y -> y.winter(2), y -> y.sun(0), y -> y.sun(10), y -> y.back(0)};
        for (Stage.Step step : refused) {
            C.holds("refused", step.on(x) < 0);
            C.due("to undo", x.now(4), 1);
        }
        C.due("undone is the felling", x.undo(), 0);
        C.due("height", x.tree(0, 1), 4);
    }

    /** Only what is done is among them: no question, no letter, no count, no rate, no image. */
    private static void questionsAreNotUndone() {
        ShadeVotes x = Stage.SOME.make();
        Stage.Step[] others = {y -> y.type('x'), y -> y.clear(), y -> y.counted(0, 1), y -> y.mayBe(), y -> y.forget(),
            y -> y.rate(3, 0), y -> y.keep(1), y -> y.movers(1, 9), y -> y.prune(1), y -> y.plant(1, 20),
            y -> y.suns(1), y -> y.odds(0, 5, 0)};
        for (Stage.Step step : others) {
            step.on(x);
            C.due("to undo", x.now(4), 6);
        }
        x.counted(2, 5);
        Checks.type(x, "abc");
        long trace = x.trace();
        C.due("undone is the growing", x.undo(), 5);
        C.due("day", x.now(0), 0);
        C.due("what was counted stays", x.count(3), 1);
        C.due("the text stays", x.count(4), 3);
        C.due("the trace stays", x.trace(), trace);
        C.due("the image stays", x.back(1), 1);
    }

    /** Promises 5 to 8: which "what" there are, of what there is. */
    private static void whatMayBeAskedOfEach() {
        ShadeVotes x = Checks.told("t4 6 1 5;t8 1 0 2;p4 3;p0 2;s2;");
        asks("tree(0)", new int[] {4, 6, 1, 5, 1 << 4 | 1 << 1, 0}, what -> x.tree(0, what));
        asks("tree(1)", new int[] {8, 1, 0, 2, 1 << 8, 0}, what -> x.tree(1, what));
        asks("tree(2)", new int[0], what -> x.tree(2, what));
        asks("tree(-1)", new int[0], what -> x.tree(-1, what));
        asks("person(0)", new int[] {4, 3, 0}, what -> x.person(0, what));
        asks("person(1)", new int[] {0, 2, NONE}, what -> x.person(1, what));
        asks("person(2)", new int[0], what -> x.person(2, what));
        asks("person(-1)", new int[0], what -> x.person(-1, what));
        asks("motion(0)", new int[] {3, 0, 1}, what -> x.motion(0, what));
        asks("motion(1)", new int[] {0, 3, 0}, what -> x.motion(1, what));
        asks("motion(2)", new int[] {3, 0, 1}, what -> x.motion(2, what));
        asks("motion(3)", new int[0], what -> x.motion(3, what));
        asks("motion(-1)", new int[0], what -> x.motion(-1, what));
        asks("now", new int[] {0, 2, 0, 2, 0}, what -> x.now(what));
        asks("count", new int[] {3, 3, 2, 0, 0}, what -> x.count(what));
    }

    private static void asks(String name, int[] due, java.util.function.IntUnaryOperator call) {
        for (int what = -3; what <= 9; what++) {
            boolean is = what >= 0 && what < due.length;
            C.due(name + " what " + what, call.applyAsInt(what), is ? due[what] : BAD);
        }
        C.due(name + " the least int", call.applyAsInt(Integer.MIN_VALUE), BAD);
        C.due(name + " the greatest int", call.applyAsInt(Integer.MAX_VALUE), BAD);
    }
}

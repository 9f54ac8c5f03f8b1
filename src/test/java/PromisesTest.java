/** A test for each promise of the document: ordinary calls, the edges that it names, wrong numbers. */
public final class PromisesTest {
    private static final int BAD = -1, STATE = -2, FULL = -3, NONE = -9, NO = -1000000;
    private static final Checks C = new Checks();

    // 4 wide, 3 high. Tree 0 shades 8, 4, 0; tree 1 shades 6, 2; tree 2 shades 11, 7, 3 (but not in winter).
    private static final String LAND = "g4 3;t8 7 1 1;t6 3 0 6;t11 9 0 3;p8 2;p4 1;p2 3;p3 2;p0 4;s3;";
    // The columns of a land of 2 by 2: tree 0 (height 2, wants 0) at 2, tree 1 (height 1, wants 1) at 3.
    private static final String SMALL = "g2 2;t2 2 1 1;t3 1 0 2;p2 1;p3 1;s2;";

    public static void main(String[] args) {
        newObject();
        type();
        clear();
        commune();
        communeFaults();
        communeFaultsAtLimits();
        communeTellsAllAnew();
        communeLeavesNothingBehind();
        tree();
        person();
        motion();
        now();
        moves();
        prunes();
        grows();
        plants();
        fells();
        winter();
        sun();
        undo();
        movers();
        prune();
        plant();
        suns();
        hedge();
        share();
        counted();
        forget();
        mayBe();
        odds();
        sway();
        cool();
        dark();
        rate();
        keep();
        back();
        count();
        trace();
        C.end("PromisesTest");
    }

    /** Promise 1. */
    private static void newObject() {
        ShadeVotes x = new ShadeVotes();
        C.due("1 w", x.count(0), 3);
        C.due("1 h", x.count(1), 3);
        C.due("1 people", x.count(2), 0);
        C.due("1 counted", x.count(3), 0);
        C.due("1 letters", x.count(4), 0);
        C.due("1 day", x.now(0), 0);
        C.due("1 sun", x.now(1), 3);
        C.due("1 winter", x.now(2), 0);
        C.due("1 trees", x.now(3), 0);
        C.due("1 undone", x.now(4), 0);
        C.due("1 trace", x.trace(), 0);
        C.due("1 tree", x.tree(0, 0), BAD);
        C.due("1 person", x.person(0, 0), BAD);
        C.due("1 carried", x.motion(0, 2), 0);
        C.due("1 undo", x.undo(), STATE);
        C.due("1 image 0", x.back(0), STATE);
        C.due("1 image 1", x.back(1), STATE);
        C.due("1 rate", x.rate(0, 0), NO);
        C.due("1 share", x.share(0), BAD);
        C.due("1 cool", x.cool(0), BAD);
        C.due("1 may be", x.mayBe(), 511);
    }

    /** Promise 2. */
    private static void type() {
        ShadeVotes x = new ShadeVotes();
        C.due("2 least letter", x.type(0), 1);
        C.due("2 highest letter", x.type(255), 2);
        C.due("2 below", x.type(-1), BAD);
        C.due("2 above", x.type(256), BAD);
        C.due("2 far above", x.type(Integer.MAX_VALUE), BAD);
        C.due("2 letters", x.count(4), 2);
        for (int i = 3; i <= 200; i++) {
            C.due("2 letter " + i, x.type('t'), i);
        }
        C.due("2 the 201st", x.type('t'), FULL);
        C.due("2 bad comes before full", x.type(256), BAD);
        C.due("2 stays", x.count(4), 200);
    }

    /** Promise 3. */
    private static void clear() {
        ShadeVotes x = new ShadeVotes();
        C.due("3 none", x.clear(), 0);
        Checks.type(x, "p0 1;");
        C.due("3 five", x.clear(), 5);
        C.due("3 none again", x.clear(), 0);
        C.due("3 nothing is told", x.commune(), 0);
        C.due("3 nobody", x.count(2), 0);
        for (int i = 0; i < 200; i++) {
            x.type(' ');
        }
        C.due("3 all", x.clear(), 200);
        C.due("3 room again", x.type('p'), 1);
    }

    /** Promise 4. */
    private static void commune() {
        ShadeVotes x = new ShadeVotes();
        C.due("4 no text", x.commune(), 0);
        C.due("4 items", Checks.tell(x, LAND), 10);
        C.due("4 the text is empty", x.count(4), 0);
        C.due("4 w", x.count(0), 4);
        C.due("4 h", x.count(1), 3);
        C.due("4 people", x.count(2), 5);
        C.due("4 trees", x.now(3), 3);
        C.due("4 blanks alone", Checks.tell(x, "   "), 0);
        C.due("4 without g the land is as at first", x.count(0), 3);
        C.due("4 nobody", x.count(2), 0);
        C.due("4 many blanks", Checks.tell(x, "  g  5   4 ;  s 9;p 19  4  ;t19 20 1 7 ;  "), 4);
        C.due("4 w 5", x.count(0), 5);
        C.due("4 h 4", x.count(1), 4);
        C.due("4 sun 9", x.now(1), 9);
        C.due("4 cell 19", x.person(0, 0), 19);
        C.due("4 no blanks but between numbers", Checks.tell(x, "t0 0 0 0;p0 1;s1;"), 3);
        C.due("4 alike cells of people", Checks.tell(x, "p3 1;p3 2;p3 3;"), 3);
        C.due("4 land, sun, 5 trees, 7 people", Checks.tell(x, "g5 4;t0 1 1 1;t1 1 1 1;t2 1 1 1;t3 1 1 1;t4 1 1 1;"
                + "p0 1;p0 1;p0 1;p0 1;p0 1;p0 1;p0 1;s1;"), 14);
        StringBuilder blanks = new StringBuilder("s7;");
        while (blanks.length() < 200) {
            blanks.append(' ');
        }
        C.due("4 200 letters", Checks.tell(x, blanks.toString()), 1);
        C.due("4 sun of 200 letters", x.now(1), 7);
    }

    private static void fault(String text, int place) {
        ShadeVotes x = Checks.told("g2 3;t1 5 1 2;p1 3;s8;");
        Checks.type(x, text);
        C.due("4 fault of [" + text + "]", x.commune(), -10 - place);
        C.due("4 letters behind [" + text + "]", x.count(4), text.length());
        C.due("4 w behind [" + text + "]", x.count(0), 2);
        C.due("4 h behind [" + text + "]", x.count(1), 3);
        C.due("4 sun behind [" + text + "]", x.now(1), 8);
        C.due("4 trees behind [" + text + "]", x.now(3), 1);
        C.due("4 height behind [" + text + "]", x.tree(0, 1), 5);
        C.due("4 people behind [" + text + "]", x.count(2), 1);
    }

    private static void communeFaults() {
        fault(";", 0);
        fault("x", 0);
        fault("G3 3;", 0);
        fault("5;", 0);
        fault("  21", 2);
        fault("\t", 0);
        fault("t0 1 1 1;;", 9);
        fault("t0 1 1 1 1;", 9);
        fault("t0 1 1;", 6);
        fault("t;", 1);
        fault("tt", 1);
        fault("p0 1 p", 5);
        fault("p0 1,", 4);
        fault("p-1 1;", 1);
        fault("s01;", 1);
        fault("s 00;", 2);
        fault("s007;", 1);
        fault("p00 1;", 1);
        fault("p0 01;", 3);
        fault("p4294967296 1;", 1);
        fault("p0 4294967297;", 3);
        fault("p0 18446744073709551617;", 3);
        fault("t0 " + "0".repeat(150) + "1 1 1;", 3);
        fault("s" + "9".repeat(199), 1);
        // It ends too early: the text's length.
        fault("g", 1);
        fault("g2", 2);
        fault("g2 2", 4);
        fault("g2 2   ", 7);
        fault("t", 1);
        fault("t0", 2);
        fault("t0 1 1 1", 8);
        fault("p0", 2);
        fault("s", 1);
        fault("s4", 2);
        fault("s4;p0 4", 7);
        fault("s4;p0 4" + " ".repeat(193), 200);
    }

    private static void communeFaultsAtLimits() {
        fault("g1 2;", 1);
        fault("g6 2;", 1);
        fault("g2 1;", 3);
        fault("g2 5;", 3);
        fault("g2 2;g2 2;", 5);
        fault("s1;g2 2;", 3);
        fault("s0;", 1);
        fault("s10;", 1);
        fault("s1;s1;", 3);
        fault("p0 0;", 3);
        fault("p0 5;", 3);
        fault("p9 1;", 1);
        fault("g2 2;p4 1;", 6);
        fault("g5 4;p20 1;", 6);
        fault("t9 1 1 1;", 1);
        fault("t0 21 1 1;", 3);
        fault("t0 1 2 1;", 5);
        fault("t0 1 1 8;", 7);
        fault("t3 1 1 1;t3 1 1 1;", 10);
        fault("t0 1 1 1;t1 1 1 1;t2 1 1 1;t3 1 1 1;t4 1 1 1;t5 1 1 1;", 45);
        fault("p0 1;p0 1;p0 1;p0 1;p0 1;p0 1;p0 1;p", 35);
        fault("p0 1;p0 1;p0 1;p0 1;p0 1;p0 1;p0 1; p0 1;", 36);
    }

    private static void communeTellsAllAnew() {
        ShadeVotes x = Checks.told(LAND);
        x.winter(1);
        x.grows();
        x.keep(0);
        x.keep(1);
        x.counted(0, 1);
        x.rate(0, 0);
        C.due("4 a fault leaves the day", Checks.tell(x, "z"), -10);
        C.due("4 day", x.now(0), 1);
        C.due("4 winter", x.now(2), 1);
        C.due("4 undone", x.now(4), 2);
        C.due("4 counted", x.count(3), 1);
        C.due("4 image", x.back(0), 1);
        x.sun(5);
        C.due("4 anew", Checks.tell(x, "p8 1;"), 1);
        C.due("4 day anew", x.now(0), 0);
        C.due("4 sun anew", x.now(1), 3);
        C.due("4 summer anew", x.now(2), 0);
        C.due("4 no trees anew", x.now(3), 0);
        C.due("4 nothing to undo anew", x.now(4), 0);
        C.due("4 undo anew", x.undo(), STATE);
        C.due("4 nothing counted anew", x.count(3), 0);
        C.due("4 image 0 anew", x.back(0), STATE);
        C.due("4 image 1 anew", x.back(1), STATE);
        C.due("4 the trace stays", x.trace(), 1);
        x.fells(0);
        Checks.tell(x, "t0 5 1 1;");
        x.fells(0);
        Checks.tell(x, "t0 5 1 1;");
        C.due("4 not felled anew", x.tree(0, 5), 0);
    }

    private static void communeLeavesNothingBehind() {
        ShadeVotes x = Checks.told("t0 20 1 7;t1 20 1 7;t2 20 1 7;p0 4;p1 4;p2 4;p0 4;p1 4;p2 4;p0 4;");
        Checks.tell(x, "t8 1 1 2;p8 1;");
        C.due("4 dark as told", x.dark(1), 0);
        C.due("4 for as told", x.motion(0, 0), 0);
        C.due("4 against as told", x.motion(0, 1), 1);
        C.due("4 share as told", x.share(0), 100);
        C.due("4 movers as told", x.movers(0, 9), NONE);
        C.due("4 odds as told", x.odds(0, 5, 0), 0);
        C.due("4 sway as told", x.sway(0), 0);
        C.due("4 hedge as told", x.hedge(0), NONE);
        C.due("4 prune as told", x.prune(0), NONE);
        C.due("4 tree 1 is gone", x.tree(1, 0), BAD);
        C.due("4 person 1 is gone", x.person(1, 0), BAD);
        C.due("4 the next tree is tree 1", x.plants(0, 1), 1);
        C.due("4 of height 1", x.tree(1, 1), 1);
    }

    /** Promise 5. */
    private static void tree() {
        ShadeVotes x = Checks.told(LAND);
        C.due("5 cell", x.tree(2, 0), 11);
        C.due("5 height", x.tree(0, 1), 7);
        C.due("5 evergreen", x.tree(0, 2), 1);
        C.due("5 not evergreen", x.tree(1, 2), 0);
        C.due("5 wants", x.tree(1, 3), 6);
        C.due("5 shade 0", x.tree(0, 4), 1 << 8 | 1 << 4 | 1);
        C.due("5 shade 1", x.tree(1, 4), 1 << 6 | 1 << 2);
        C.due("5 shade as far as the land goes", x.tree(2, 4), 1 << 11 | 1 << 7 | 1 << 3);
        C.due("5 not felled", x.tree(1, 5), 0);
        x.sun(4);
        C.due("5 shade is cut", x.tree(0, 4), 1 << 8 | 1 << 4);
        x.sun(8);
        C.due("5 shade of its cell alone", x.tree(0, 4), 1 << 8);
        x.winter(1);
        C.due("5 an evergreen's shade in winter", x.tree(0, 4), 1 << 8);
        C.due("5 no shade in winter", x.tree(2, 4), 0);
        x.fells(0);
        C.due("5 felled", x.tree(0, 5), 1);
        C.due("5 no shade of a stump", x.tree(0, 4), 0);
        C.due("5 no such tree", x.tree(3, 0), BAD);
        C.due("5 tree below 0", x.tree(-1, 0), BAD);
        C.due("5 what below 0", x.tree(0, -1), BAD);
        C.due("5 what above 5", x.tree(0, 6), BAD);
        C.due("5 the highest cell's bit", Checks.told("g5 4;t19 20 1 0;s1;").tree(0, 4),
                1 << 19 | 1 << 14 | 1 << 9 | 1 << 4);
    }

    /** Promise 6. */
    private static void person() {
        ShadeVotes x = Checks.told("t6 6 1 1;t3 6 0 2;t0 7 1 4;p0 1;p3 4;p1 2;p6 3;");
        C.due("6 cell", x.person(1, 0), 3);
        C.due("6 weight", x.person(1, 1), 4);
        C.due("6 under the highest", x.person(0, 2), 2);
        C.due("6 of as high ones the lowest", x.person(1, 2), 0);
        C.due("6 under none", x.person(2, 2), NONE);
        C.due("6 under its own cell's", x.person(3, 2), 0);
        x.prunes(0, 1);
        C.due("6 under the higher one then", x.person(1, 2), 1);
        x.winter(1);
        C.due("6 but not in winter", x.person(1, 2), 0);
        C.due("6 no such person", x.person(4, 0), BAD);
        C.due("6 person below 0", x.person(-1, 0), BAD);
        C.due("6 what below 0", x.person(0, -1), BAD);
        C.due("6 what above 2", x.person(0, 3), BAD);
    }

    /** Promise 7. */
    private static void motion() {
        ShadeVotes x = Checks.told(LAND);
        // Under tree 0: 2 + 1 + 4; under tree 1: 3; under tree 2: 2.
        C.due("7 for 0", x.motion(0, 0), 9);
        C.due("7 against 0", x.motion(0, 1), 3);
        C.due("7 carried 0", x.motion(0, 2), 1);
        C.due("7 for 1", x.motion(1, 0), 5);
        C.due("7 against 1", x.motion(1, 1), 7);
        C.due("7 carried 1", x.motion(1, 2), 0);
        C.due("7 for 2", x.motion(2, 0), 3);
        C.due("7 against 2", x.motion(2, 1), 9);
        ShadeVotes even = Checks.told(SMALL);
        C.due("7 as many for", even.motion(0, 0), 1);
        C.due("7 as against", even.motion(0, 1), 1);
        C.due("7 are not more", even.motion(0, 2), 0);
        ShadeVotes sunny = Checks.told("p0 4;t8 1 1 7;");
        C.due("7 nobody for", sunny.motion(0, 0), 0);
        C.due("7 nobody against", sunny.motion(0, 1), 0);
        C.due("7 motion below 0", x.motion(-1, 0), BAD);
        C.due("7 motion above 2", x.motion(3, 0), BAD);
        C.due("7 what below 0", x.motion(0, -1), BAD);
        C.due("7 what above 2", x.motion(0, 3), BAD);
    }

    /** Promise 8. */
    private static void now() {
        ShadeVotes x = Checks.told(LAND);
        x.grows();
        x.grows();
        x.sun(7);
        x.winter(1);
        x.plants(0, 0);
        C.due("8 day", x.now(0), 2);
        C.due("8 sun", x.now(1), 7);
        C.due("8 winter", x.now(2), 1);
        C.due("8 trees", x.now(3), 4);
        C.due("8 undone", x.now(4), 5);
        C.due("8 below", x.now(-1), BAD);
        C.due("8 above", x.now(5), BAD);
    }

    /** Promise 9. */
    private static void moves() {
        ShadeVotes x = Checks.told("g3 2;p0 1;p5 2;");
        C.due("9 up off", x.moves(0, 0), STATE);
        C.due("9 left off", x.moves(0, 3), STATE);
        C.due("9 down off", x.moves(1, 2), STATE);
        C.due("9 right off", x.moves(1, 1), STATE);
        C.due("9 nothing was done", x.now(4), 0);
        C.due("9 right", x.moves(0, 1), 1);
        C.due("9 right to the rim", x.moves(0, 1), 2);
        C.due("9 right off the rim", x.moves(0, 1), STATE);
        C.due("9 left from the rim", x.moves(0, 3), 1);
        C.due("9 down", x.moves(0, 2), 4);
        C.due("9 left", x.moves(0, 3), 3);
        C.due("9 up", x.moves(0, 0), 0);
        C.due("9 up of the other", x.moves(1, 0), 2);
        C.due("9 cell of the other", x.person(1, 0), 2);
        C.due("9 no such person", x.moves(2, 0), BAD);
        C.due("9 person below 0", x.moves(-1, 0), BAD);
        C.due("9 way below 0", x.moves(0, -1), BAD);
        C.due("9 way above 3", x.moves(0, 4), BAD);
        C.due("9 seven were done", x.now(4), 7);
    }

    /** Promise 10. */
    private static void prunes() {
        ShadeVotes x = Checks.told("t0 20 1 1;t1 5 0 1;");
        C.due("10 by 1", x.prunes(0, 1), 19);
        C.due("10 by 20", x.prunes(0, 20), 0);
        C.due("10 what is 0 already", x.prunes(0, 3), 0);
        C.due("10 to nothing", x.prunes(1, 5), 0);
        C.due("10 is not felled", x.tree(1, 5), 0);
        x.grows();
        C.due("10 and grows again", x.tree(1, 1), 1);
        x.fells(1);
        C.due("10 a stump", x.prunes(1, 4), 0);
        C.due("10 all were done", x.now(4), 7);
        C.due("10 no such tree", x.prunes(2, 1), BAD);
        C.due("10 tree below 0", x.prunes(-1, 1), BAD);
        C.due("10 by 0", x.prunes(0, 0), BAD);
        C.due("10 by 21", x.prunes(0, 21), BAD);
        C.due("10 by less than nothing", x.prunes(0, Integer.MIN_VALUE), BAD);
    }

    /** Promise 11. */
    private static void grows() {
        ShadeVotes x = Checks.told("t0 19 1 1;t1 0 0 1;t2 4 0 1;");
        x.fells(2);
        x.winter(1);
        C.due("11 day 1", x.grows(), 1);
        C.due("11 one higher", x.tree(0, 1), 20);
        C.due("11 from nothing", x.tree(1, 1), 1);
        C.due("11 a stump stays", x.tree(2, 1), 0);
        C.due("11 day 2", x.grows(), 2);
        C.due("11 20 at most", x.tree(0, 1), 20);
        for (int day = 3; day <= 999; day++) {
            C.due("11 day " + day, x.grows(), day);
        }
        C.due("11 behind day 999", x.grows(), STATE);
        C.due("11 it stays", x.now(0), 999);
        C.due("11 undone", x.undo(), 9);
        C.due("11 day 998", x.now(0), 998);
        C.due("11 day 999 again", x.grows(), 999);
    }

    /** Promise 12. */
    private static void plants() {
        ShadeVotes x = Checks.told("g2 3;t0 4 1 1;t1 4 1 1;t2 4 1 1;");
        C.due("12 number", x.plants(5, 6), 3);
        C.due("12 cell", x.tree(3, 0), 5);
        C.due("12 height", x.tree(3, 1), 1);
        C.due("12 not evergreen", x.tree(3, 2), 0);
        C.due("12 wants", x.tree(3, 3), 6);
        C.due("12 not felled", x.tree(3, 5), 0);
        C.due("12 there is one", x.plants(5, 0), STATE);
        x.fells(0);
        C.due("12 a stump is one", x.plants(0, 0), STATE);
        C.due("12 the fifth", x.plants(4, 0), 4);
        C.due("12 full", x.plants(3, 0), FULL);
        C.due("12 state comes before full", x.plants(4, 0), STATE);
        C.due("12 bad comes before all", x.plants(4, 8), BAD);
        C.due("12 cell below 0", x.plants(-1, 0), BAD);
        C.due("12 cell that is not", x.plants(6, 0), BAD);
        C.due("12 wants below 0", x.plants(3, -1), BAD);
        C.due("12 done", x.now(4), 3);
        x.undo();
        C.due("12 undone", x.now(3), 4);
        C.due("12 once more", x.plants(3, 7), 4);
        ShadeVotes y = Checks.told("t0 4 1 1;");
        y.plants(1, 1);
        y.fells(1);
        y.undo();
        y.undo();
        y.plants(2, 1);
        C.due("12 a new one is no stump", y.tree(1, 5), 0);
    }

    /** Promise 13. */
    private static void fells() {
        ShadeVotes x = Checks.told("t0 13 1 5;t1 0 1 5;");
        C.due("13 height till then", x.fells(0), 13);
        C.due("13 height", x.tree(0, 1), 0);
        C.due("13 wants stay", x.tree(0, 3), 5);
        C.due("13 evergreen stays", x.tree(0, 2), 1);
        C.due("13 it was", x.fells(0), STATE);
        C.due("13 of no height", x.fells(1), 0);
        C.due("13 it was, too", x.fells(1), STATE);
        C.due("13 no such tree", x.fells(2), BAD);
        C.due("13 tree below 0", x.fells(-1), BAD);
        C.due("13 trees", x.now(3), 2);
        C.due("13 done", x.now(4), 2);
    }

    /** Promise 14. */
    private static void winter() {
        ShadeVotes x = Checks.told(LAND);
        C.due("14 comes", x.winter(1), 0);
        C.due("14 is there", x.winter(1), 1);
        C.due("14 goes", x.winter(0), 1);
        C.due("14 is gone", x.winter(0), 0);
        C.due("14 below", x.winter(-1), BAD);
        C.due("14 above", x.winter(2), BAD);
        C.due("14 done", x.now(4), 4);
        x.undo();
        x.undo();
        C.due("14 undone", x.now(2), 1);
    }

    /** Promise 15. */
    private static void sun() {
        ShadeVotes x = Checks.told(LAND);
        C.due("15 least", x.sun(1), 3);
        C.due("15 most", x.sun(9), 1);
        C.due("15 as it is", x.sun(9), 9);
        C.due("15 below", x.sun(0), BAD);
        C.due("15 above", x.sun(10), BAD);
        C.due("15 sun", x.now(1), 9);
        C.due("15 done", x.now(4), 3);
    }

    /** Promise 16. */
    private static void undo() {
        ShadeVotes x = Checks.told(LAND);
        x.moves(0, 1);
        x.prunes(0, 2);
        x.grows();
        x.plants(0, 7);
        x.fells(1);
        x.winter(1);
        x.sun(8);
        C.due("16 refused", x.fells(1), STATE);
        C.due("16 undo the sun", x.undo(), 6);
        C.due("16 sun", x.now(1), 3);
        C.due("16 undo winter", x.undo(), 5);
        C.due("16 winter", x.now(2), 0);
        C.due("16 undo the felling", x.undo(), 4);
        C.due("16 height", x.tree(1, 1), 4);
        C.due("16 not felled", x.tree(1, 5), 0);
        C.due("16 undo the planting", x.undo(), 3);
        C.due("16 trees", x.now(3), 3);
        C.due("16 undo the growth", x.undo(), 2);
        C.due("16 day", x.now(0), 0);
        C.due("16 height 0", x.tree(0, 1), 5);
        C.due("16 undo the pruning", x.undo(), 1);
        C.due("16 height 0 again", x.tree(0, 1), 7);
        C.due("16 undo the move", x.undo(), 0);
        C.due("16 cell", x.person(0, 0), 8);
        C.due("16 none", x.undo(), STATE);
        for (int i = 1; i <= 13; i++) {
            x.sun(i % 9 + 1);
        }
        C.due("16 ten are known", x.now(4), 10);
        for (int i = 9; i >= 0; i--) {
            C.due("16 of ten", x.undo(), i);
        }
        C.due("16 older ones are lost", x.undo(), STATE);
        C.due("16 sun of the third", x.now(1), 4);
    }

    /** Promise 17. */
    private static void movers() {
        ShadeVotes x = Checks.told(LAND);
        C.due("17 carried already", x.movers(0, 0), 0);
        C.due("17 nobody by no step", x.movers(1, 0), NONE);
        // Persons 0, 1, 4 (weights 2, 1, 4) are against motion 1 by 7 to 5; person 4 can reach 1 or, by 2 steps, 2.
        C.due("17 out of the shade", x.movers(1, 1), 1 << 4);
        C.due("17 of two the fewest", x.movers(2, 1), 1 << 4 | 1 << 3);
        C.due("17 by 9 steps", x.movers(2, 9), 1 << 4);
        // Two alike: the least bits.
        ShadeVotes y = Checks.told("g2 2;t0 1 1 1;t1 1 1 0;p1 1;p1 1;p1 1;");
        C.due("17 the least of as few", y.movers(0, 1), 3);
        C.due("17 into the sun is not enough", Checks.told("g2 2;t0 1 1 0;p0 1;").movers(0, 9), NONE);
        C.due("17 into the sun is enough", Checks.told("g2 2;t0 1 1 0;t3 1 1 1;p0 2;p3 1;").movers(0, 1), 1);
        ShadeVotes all = Checks.told("g5 4;t0 1 1 1;t1 1 1 0;t19 1 1 0;p19 1;p19 1;p19 1;p19 1;p19 1;p19 1;p1 1;");
        C.due("17 all seven", all.movers(0, 1), 127);
        C.due("7 of seven people", all.motion(0, 1), 7);
        C.due("21 of seven people", all.hedge(0), NONE);
        C.due("22 of seven people", all.share(2), 85);
        C.due("27 of seven people", all.sway(0), 0);
        C.due("17 nobody there", new ShadeVotes().movers(0, 9), NONE);
        ShadeVotes z = Checks.told("g2 2;t3 1 1 1;p0 1;");
        C.due("17 steps are not aslant", z.movers(0, 1), NONE);
        C.due("17 two steps", z.movers(0, 2), 1);
        C.due("17 nothing is changed", z.person(0, 0), 0);
        C.due("17 motion below 0", x.movers(-1, 0), BAD);
        C.due("17 motion above 2", x.movers(3, 0), BAD);
        C.due("17 steps below 0", x.movers(0, -1), BAD);
        C.due("17 steps above 9", x.movers(0, 10), BAD);
    }

    /** Promise 18. */
    private static void prune() {
        ShadeVotes x = Checks.told(LAND);
        C.due("18 as it is", x.prune(0), 0);
        C.due("18 tree 0 by 2", x.prune(1), 2);
        C.due("18 tree 0 by 7", x.prune(2), 7);
        C.due("18 nothing is changed", x.tree(0, 1), 7);
        C.due("18 nothing is done", x.now(4), 0);
        C.due("18 none", new ShadeVotes().prune(0), NONE);
        // Tree 1 hides tree 0, and has to be lower than it or, if its number is higher, as high.
        ShadeVotes y = Checks.told("t6 5 1 1;t3 7 1 2;p0 1;s1;");
        C.due("18 as high is enough for a lower number", y.prune(0), 102);
        ShadeVotes z = Checks.told("t6 7 1 2;t3 5 1 1;p0 1;s1;");
        C.due("18 a higher number needs more", z.prune(0), 3);
        ShadeVotes two = Checks.told("g2 2;t0 4 1 0;t1 4 1 0;t2 1 1 1;p0 1;p1 1;p2 1;");
        C.due("18 alike trees don't do alone", two.prune(0), NONE);
        ShadeVotes tie = Checks.told("g2 2;t0 4 1 0;t1 4 1 0;t2 1 1 1;p0 1;p1 1;p2 2;");
        C.due("18 of several the lowest", tie.prune(0), 4);
        ShadeVotes less = Checks.told("g2 2;t0 4 1 0;t1 3 1 0;t2 1 1 1;p0 1;p1 1;p2 2;");
        C.due("18 the least comes before the lowest", less.prune(0), 103);
        C.due("18 by 1 another is higher", Checks.told("g2 2;t0 20 1 0;t2 20 1 1;p0 1;p2 1;s9;").prune(0), 1);
        C.due("18 by 20", Checks.told("g2 2;t0 20 1 0;t1 1 1 1;p0 1;p1 1;").prune(0), 20);
        C.due("18 motion below 0", x.prune(-1), BAD);
        C.due("18 motion above 2", x.prune(3), BAD);
    }

    /** Promise 19. */
    private static void plant() {
        ShadeVotes x = Checks.told(LAND);
        C.due("19 too low", x.plant(2, 5), NONE);
        C.due("19 high enough", x.plant(2, 20), 0);
        C.due("19 nothing is changed", x.now(3), 3);
        C.due("19 nobody", new ShadeVotes().plant(0, 20), NONE);
        ShadeVotes y = Checks.told("g3 2;t0 4 1 0;t1 4 1 1;p3 2;p1 1;");
        C.due("19 already: the first cell without a tree", y.plant(0, 1), 2);
        ShadeVotes same = Checks.told("g2 3;t0 3 1 0;p0 1;s1;");
        C.due("19 of the same height it has the higher number", same.plant(0, 3), NONE);
        C.due("19 a higher one", same.plant(0, 4), 2);
        C.due("19 not where a tree is, even a stump", stumpAt0().plant(0, 20), 2);
        C.due("19 motion below 0", x.plant(-1, 1), BAD);
        C.due("19 motion above 2", x.plant(3, 1), BAD);
        C.due("19 height 0", x.plant(0, 0), BAD);
        C.due("19 height 21", x.plant(0, 21), BAD);
        ShadeVotes five = Checks.told("g3 2;t0 1 0 0;t1 1 0 0;t2 1 0 0;t3 1 0 0;t4 1 0 0;p5 1;p2 4;");
        C.due("19 a sixth: person 1 against", five.plant(2, 1), NONE);
        C.due("19 a sixth that is higher", five.plant(2, 3), 5);
        five.winter(1);
        C.due("19 evergreen in winter", five.plant(2, 1), 5);
        C.due("19 still five", five.now(3), 5);
    }

    private static ShadeVotes stumpAt0() {
        ShadeVotes x = Checks.told("g2 2;t0 3 1 0;p0 1;s1;");
        x.fells(0);
        return x;
    }

    /** Promise 20. */
    private static void suns() {
        // Person 0 (weight 2) is in the shade of height 6 at two rows off, so by suns 1, 2, 3; person 1 is against.
        ShadeVotes x = Checks.told("t6 6 1 1;t8 1 1 2;p0 2;p8 1;");
        C.due("20 low suns", x.suns(0), 7);
        C.due("20 high suns", x.suns(1), 511 - 7);
        C.due("20 none", x.suns(2), 0);
        C.due("20 the sun stays", x.now(1), 3);
        C.due("20 nobody", new ShadeVotes().suns(0), 0);
        C.due("20 all", Checks.told("t0 1 1 1;p0 1;").suns(0), 511);
        C.due("20 motion below 0", x.suns(-1), BAD);
        C.due("20 motion above 2", x.suns(3), BAD);
    }

    /** Promise 21. */
    private static void hedge() {
        ShadeVotes x = Checks.told(LAND);
        C.due("21 the first", x.hedge(0), 3);
        C.due("21 none", x.hedge(1), NONE);
        C.due("21 nobody", new ShadeVotes().hedge(0), NONE);
        ShadeVotes y = Checks.told("g4 2;t0 1 1 1;t1 1 1 0;t2 1 1 1;t3 1 1 1;p0 1;p1 1;p2 2;p3 1;");
        C.due("21 behind the first column", y.hedge(0), 1);
        ShadeVotes z = Checks.told("g4 2;t0 1 1 0;t1 1 1 1;t2 1 1 1;t3 1 1 0;p0 1;p1 2;p2 2;p3 1;");
        C.due("21 in the middle", z.hedge(0), 2);
        C.due("21 the other side has nobody", Checks.told("g2 2;t0 1 1 1;p0 1;").hedge(0), NONE);
        C.due("21 of two columns", Checks.told("g2 2;t0 1 1 1;t1 1 1 1;p0 1;p1 1;").hedge(0), 1);
        C.due("21 motion below 0", x.hedge(-1), BAD);
        C.due("21 motion above 2", x.hedge(3), BAD);
    }

    /** Promise 22. */
    private static void share() {
        ShadeVotes x = Checks.told(LAND);
        C.due("22 of 7 in 12", x.share(0), 58);
        C.due("22 of 3 in 12", x.share(1), 25);
        C.due("22 of 2 in 12", x.share(2), 16);
        x.winter(1);
        C.due("22 all", x.share(0), 100);
        C.due("22 nothing", x.share(1), 0);
        x.fells(0);
        C.due("22 none is under trees", x.share(0), 0);
        C.due("22 those in the sun don't count", Checks.told("t0 1 1 1;p0 1;p5 4;").share(0), 100);
        C.due("22 no such tree", x.share(3), BAD);
        C.due("22 tree below 0", x.share(-1), BAD);
    }

    /** Promise 23. */
    private static void counted() {
        ShadeVotes x = Checks.told(LAND);
        C.due("23 first", x.counted(0, 0), 1);
        C.due("23 most", x.counted(2, 28), 2);
        C.due("23 motion below 0", x.counted(-1, 0), BAD);
        C.due("23 motion above 2", x.counted(3, 0), BAD);
        C.due("23 below 0", x.counted(0, -1), BAD);
        C.due("23 above 28", x.counted(0, 29), BAD);
        C.due("23 alike ones are more", x.counted(0, 0), 3);
        C.due("23 fourth", x.counted(0, 0), 4);
        C.due("23 fifth", x.counted(0, 0), 5);
        C.due("23 sixth", x.counted(0, 0), FULL);
        C.due("23 bad comes before full", x.counted(3, 0), BAD);
        C.due("23 can't be undone", x.undo(), STATE);
        C.due("23 count", x.count(3), 5);
    }

    /** Promise 24. */
    private static void forget() {
        ShadeVotes x = Checks.told(LAND);
        C.due("24 nothing", x.forget(), 0);
        x.counted(0, 28);
        x.counted(1, 28);
        C.due("24 two", x.forget(), 2);
        C.due("24 nothing again", x.forget(), 0);
        C.due("24 any sun", x.mayBe(), 511);
        C.due("24 the first again", x.counted(0, 1), 1);
    }

    /** Promise 25. */
    private static void mayBe() {
        // FOR 0 is 2 by suns 1 to 3, else 0; FOR 1 is 1 by suns 1 and 2, else 0.
        ShadeVotes x = Checks.told("t6 6 1 1;t7 5 1 2;p0 2;p1 1;s9;");
        C.due("25 any", x.mayBe(), 511);
        x.counted(0, 2);
        C.due("25 three", x.mayBe(), 7);
        x.counted(1, 0);
        C.due("25 one", x.mayBe(), 4);
        x.counted(1, 1);
        C.due("25 none", x.mayBe(), 0);
        x.forget();
        x.counted(1, 0);
        C.due("25 seven", x.mayBe(), 511 - 3);
        x.prunes(1, 5);
        C.due("25 all else as it is now", x.mayBe(), 511);
        x.undo();
        C.due("25 undone", x.mayBe(), 511 - 3);
        C.due("25 the sun stays", x.now(1), 9);
    }

    /** Promise 26. */
    private static void odds() {
        ShadeVotes one = Checks.told("t0 1 1 1;p0 1;");
        C.due("26 upper", one.odds(0, 4, 0), 2);
        C.due("26 lower", one.odds(0, 4, 1), 5);
        C.due("26 never upper", one.odds(0, 0, 0), 0);
        C.due("26 never lower", one.odds(0, 0, 1), 1);
        C.due("26 ever upper", one.odds(0, 10, 0), 1);
        C.due("26 ever lower", one.odds(0, 10, 1), 1);
        C.due("26 nothing for it, upper", one.odds(1, 7, 0), 0);
        C.due("26 nothing for it, lower", one.odds(1, 7, 1), 1);
        ShadeVotes x = Checks.told(SMALL);
        // Carried if the first comes and the second does not.
        C.due("26 one of two, upper", x.odds(0, 3, 0), 21);
        C.due("26 one of two, lower", x.odds(0, 3, 1), 100);
        ShadeVotes sunny = Checks.told("t0 1 1 1;p0 1;p8 4;");
        C.due("26 in the sun, upper", sunny.odds(0, 5, 0), 1);
        C.due("26 in the sun, lower", sunny.odds(0, 5, 1), 2);
        ShadeVotes seven = Checks.told("t0 1 1 1;p0 1;p0 1;p0 1;p0 1;p0 1;p0 1;p0 1;");
        C.due("26 seven, upper", seven.odds(0, 1, 0), 10000000 - 4782969);
        C.due("26 seven, lower", seven.odds(0, 1, 1), 10000000);
        C.due("26 nobody, upper", new ShadeVotes().odds(0, 5, 0), 0);
        C.due("26 nobody, lower", new ShadeVotes().odds(0, 5, 1), 1);
        seven.movers(1, 9);
        C.due("26 behind other questions", seven.odds(0, 10, 0), 1);
        ShadeVotes against = Checks.told("g2 2;t0 1 1 1;t1 1 1 0;p0 1;p1 1;p1 1;");
        against.movers(0, 0);
        C.due("26 who does not come is not against, upper", against.odds(0, 5, 0), 1);
        C.due("26 who does not come is not against, lower", against.odds(0, 5, 1), 8);
        C.due("26 motion below 0", x.odds(-1, 0, 0), BAD);
        C.due("26 motion above 2", x.odds(3, 0, 0), BAD);
        C.due("26 p below 0", x.odds(0, -1, 0), BAD);
        C.due("26 p above 10", x.odds(0, 11, 0), BAD);
        C.due("26 what below 0", x.odds(0, 0, -1), BAD);
        C.due("26 what above 1", x.odds(0, 0, 2), BAD);
    }

    /** Promise 27. */
    private static void sway() {
        ShadeVotes x = Checks.told("t0 1 1 1;t1 1 1 2;p0 2;p0 3;p1 3;p8 4;");
        // For 0: 5, against: 3.
        C.due("27 whoever it needs", x.sway(0), 3);
        C.due("27 whoever is in its way", x.sway(1), 2);
        C.due("27 nothing helps", x.sway(2), 0);
        ShadeVotes even = Checks.told(SMALL);
        C.due("27 even votes", even.sway(0), 2);
        C.due("27 one more", Checks.told("g2 2;t0 1 1 1;t1 1 1 0;p0 2;p1 1;").sway(0), 1);
        C.due("27 one more, in small weights", Checks.told("t0 1 1 1;p0 1;p8 1;").sway(0), 1);
        C.due("27 nobody", new ShadeVotes().sway(0), 0);
        C.due("27 motion below 0", x.sway(-1), BAD);
        C.due("27 motion above 2", x.sway(3), BAD);
    }

    /** Promise 28. */
    private static void cool() {
        ShadeVotes x = Checks.told("t6 3 1 1;t2 1 0 1;p3 1;p1 1;p4 1;p8 1;p0 1;p5 1;");
        // In shade: 6, 3, 2.
        C.due("28 his own", x.cool(0), 3);
        C.due("28 one step right", x.cool(1), 2);
        C.due("28 one step left", x.cool(2), 3);
        C.due("28 of 2 and 6, two steps off, the lowest", x.cool(3), 2);
        C.due("28 one step down", x.cool(4), 3);
        C.due("28 one step up", x.cool(5), 2);
        x.winter(1);
        C.due("28 in winter", x.cool(3), 6);
        C.due("28 of several the lowest", x.cool(1), 3);
        x.fells(0);
        C.due("28 none", x.cool(0), NONE);
        C.due("28 the first cell", Checks.told("t0 1 1 1;p4 1;").cool(0), 0);
        C.due("28 from the farthest", Checks.told("g5 4;t0 1 1 1;p19 1;").cool(0), 0);
        C.due("28 no such person", x.cool(6), BAD);
        C.due("28 person below 0", x.cool(-1), BAD);
    }

    /** Promise 29. */
    private static void dark() {
        ShadeVotes x = Checks.told("t6 6 1 1;t3 6 0 2;t0 7 1 4;");
        C.due("29 three", x.dark(0), 3);
        C.due("29 two", x.dark(3), 2);
        C.due("29 one", x.dark(6), 1);
        C.due("29 none", x.dark(8), 0);
        x.winter(1);
        C.due("29 in winter", x.dark(0), 2);
        C.due("29 cell below 0", x.dark(-1), BAD);
        C.due("29 cell that is not", x.dark(9), BAD);
    }

    /** Promise 30. */
    private static void rate() {
        ShadeVotes x = Checks.told(LAND);
        C.due("30 tree", x.rate(0, 0), 7);
        C.due("30 oak", x.rate(1, 0), 14);
        C.due("30 poplar", x.rate(2, 0), -1);
        C.due("30 elder", x.rate(3, 0), 28);
        C.due("30 willow", x.rate(4, 2), 0);
        C.due("30 poplar 2", x.rate(2, 2), -2);
        C.due("30 stump", x.rate(5, 0), 10);
        C.due("30 stump 1", x.rate(5, 1), 5);
        C.due("30 kind below 0", x.rate(-1, 0), NO);
        C.due("30 kind above 5", x.rate(6, 0), NO);
        C.due("30 no such tree", x.rate(0, 3), NO);
        C.due("30 tree below 0", x.rate(0, -1), NO);
        x.fells(1);
        C.due("30 a stump's poplar", x.rate(2, 1), -6);
    }

    /** Promise 31. */
    private static void keep() {
        ShadeVotes x = Checks.told(LAND);
        C.due("31 day 0", x.keep(0), 0);
        x.grows();
        C.due("31 day 1", x.keep(1), 1);
        C.due("31 undone stays", x.now(4), 1);
        C.due("31 below", x.keep(-1), BAD);
        C.due("31 above", x.keep(2), BAD);
        C.due("31 image 0", x.back(0), 0);
        C.due("31 image 1", x.back(1), 1);
        x.grows();
        C.due("31 kept anew", x.keep(1), 2);
        x.undo();
        C.due("31 of day 2", x.back(1), 2);
    }

    /** Promise 32. */
    private static void back() {
        ShadeVotes x = Checks.told(LAND);
        C.due("32 none was kept", x.back(0), STATE);
        x.moves(4, 1);
        x.sun(5);
        x.keep(0);
        x.counted(0, 4);
        x.moves(4, 1);
        x.plants(5, 7);
        x.fells(0);
        x.winter(1);
        x.sun(9);
        x.grows();
        C.due("32 the other was not", x.back(1), STATE);
        C.due("32 it changes nothing", x.now(4), 8);
        C.due("32 below", x.back(-1), BAD);
        C.due("32 above", x.back(2), BAD);
        C.due("32 day", x.back(0), 0);
        C.due("32 sun", x.now(1), 5);
        C.due("32 winter", x.now(2), 0);
        C.due("32 trees", x.now(3), 3);
        C.due("32 nothing to undo", x.now(4), 0);
        C.due("32 undo", x.undo(), STATE);
        C.due("32 cell", x.person(4, 0), 1);
        C.due("32 height", x.tree(0, 1), 7);
        C.due("32 not felled", x.tree(0, 5), 0);
        C.due("32 counted stays", x.count(3), 1);
        x.fells(1);
        C.due("32 once more", x.back(0), 0);
        C.due("32 the image is its own", x.tree(1, 5), 0);
    }

    /** Promise 33. */
    private static void count() {
        ShadeVotes x = Checks.told("g5 2;p0 1;p1 1;p2 1;");
        x.counted(0, 0);
        Checks.type(x, "abcd");
        C.due("33 w", x.count(0), 5);
        C.due("33 h", x.count(1), 2);
        C.due("33 people", x.count(2), 3);
        C.due("33 counted", x.count(3), 1);
        C.due("33 letters", x.count(4), 4);
        C.due("33 below", x.count(-1), BAD);
        C.due("33 above", x.count(5), BAD);
    }

    /** Promise 34. */
    private static void trace() {
        ShadeVotes x = Checks.told(LAND);
        int[] marks = {1, 11, 101, 1011, 10101, 100001};
        long sum = 0;
        for (int kind = 0; kind < marks.length; kind++) {
            x.rate(kind, 0);
            sum += marks[kind];
            C.due("34 behind kind " + kind, x.trace(), sum);
        }
        x.rate(6, 0);
        x.rate(0, 3);
        x.rate(-1, 0);
        C.due("34 refused ones add nothing", x.trace(), sum);
        x.keep(0);
        x.rate(0, 0);
        x.back(0);
        C.due("34 it stays behind back()", x.trace(), sum + 1);
        x.sun(1);
        x.undo();
        C.due("34 it stays behind undo()", x.trace(), sum + 1);
    }
}

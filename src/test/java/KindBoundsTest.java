import java.util.List;

/** Each sentence of the document's section 4 (and promises 30 to 34) that names a bound, on both sides of it. */
public final class KindBoundsTest {
    private static final int BAD = -1, STATE = -2, NO = -1000000;
    private static final Checks C = new Checks();
    // Tree 0: cell 8, height 7, shade 8 and 4, weight 3. Tree 1: cell 6, height 3, shade 6 alone, nobody. Sun 4.
    private static final String TEXT = "g4 3;t8 7 1 1;t6 3 0 6;p8 2;p4 1;p0 4;s4;";
    private static final int[] MARKS = {1, 11, 101, 1011, 10101, 100001};

    public static void main(String[] args) {
        kindsAre0To5();
        ratesOfEachKind();
        ratesBelow0();
        ratesOfAStump();
        theTraceIs0AtFirst();
        eachBodyIsAskedOnce();
        refusedRatesAddNothing();
        theTraceIsOfTheObject();
        imagesAre0And1();
        anImageIsKeptOrNot();
        imagesKeepNow();
        imagesKeepNothingElse();
        anImageStaysAsItWas();
        nothingIsUndoneBehindBack();
        imagesAreGoneWhenAllIsToldAnew();
        countsOfWhatThereIs();
        C.end("KindBoundsTest");
    }

    /** "0 TREE; 1 OAK, 2 POPLAR, 5 STUMP; 3 ELDER; 4 WILLOW", and none else; promise 30: "NO: BAD." */
    private static void kindsAre0To5() {
        ShadeVotes x = Checks.told(TEXT);
        for (int kind = 0; kind <= 5; kind++) {
            C.holds("kind " + kind, x.rate(kind, 0) != NO && x.rate(kind, 1) != NO);
            for (int t : new int[] {-1, 2, 5, Integer.MIN_VALUE, Integer.MAX_VALUE}) {
                C.due("kind " + kind + " of tree " + t, x.rate(kind, t), NO);
            }
        }
        for (int kind : new int[] {-1, 6, 7, 256, Integer.MIN_VALUE, Integer.MAX_VALUE}) {
            C.due("kind " + kind, x.rate(kind, 0), NO);
            C.due("kind " + kind + " of no tree", x.rate(kind, 2), NO);
        }
        C.due("no trees at all", new ShadeVotes().rate(0, 0), NO);
    }

    private static void rates(String text, int t, int... due) {
        for (int kind = 0; kind < due.length; kind++) {
            ShadeVotes x = Checks.told(text);
            C.due("rate as kind " + kind + " of tree " + t + " of " + text, x.rate(kind, t), due[kind]);
            C.due("trace of kind " + kind, x.trace(), MARKS[kind]);
        }
    }

    private static void ratesOfEachKind() {
        rates(TEXT, 0, 7, 10, -1, 20, -1, 9);
        rates(TEXT, 1, 3, 3, -3, 6, -2, 4);
        rates("g5 4;t19 20 1 1;" + "p19 4;".repeat(7), 0, 20, 48, 1, 96, 1, 24);
    }

    /** NO is "what none is, where a number may be below 0": the least rates are far above it. */
    private static void ratesBelow0() {
        rates("g5 4;t19 0 1 1;p19 4;", 0, 0, 0, -19, 0, -19, 0);
        rates("g5 4;t15 0 1 1;t16 0 1 1;t17 0 1 1;t18 0 1 1;t19 0 1 1;", 4, 0, 0, -19, 0, -15, 0);
        rates("g5 4;t10 1 1 1;", 0, 1, 1, -9, 2, -9, 2);
    }

    /** "STUMP up, and how many CELLS it SHADES": none, once it is felled; one that stands may be rated so, too. */
    private static void ratesOfAStump() {
        ShadeVotes x = Checks.told(TEXT);
        x.fells(0);
        C.due("as a tree", x.rate(0, 0), 0);
        C.due("as an oak", x.rate(1, 0), 0);
        C.due("as a poplar", x.rate(2, 0), -8);
        C.due("as a stump", x.rate(5, 0), 0);
        C.due("of one that stands", x.rate(5, 1), 4);
        x.winter(1);
        C.due("of one that has no shade in winter", x.rate(5, 1), 3);
    }

    private static void theTraceIs0AtFirst() {
        C.due("of a new one", new ShadeVotes().trace(), 0);
        C.due("of a told one", Checks.told(TEXT).trace(), 0);
    }

    /** "as often as rate() asks that body: each once". */
    private static void eachBodyIsAskedOnce() {
        for (int kind = 0; kind <= 5; kind++) {
            ShadeVotes x = Checks.told(TEXT);
            for (int times = 1; times <= 12; times++) {
                x.rate(kind, times % 2);
                C.due("kind " + kind + " asked " + times + " times", x.trace(), (long) times * MARKS[kind]);
            }
        }
        ShadeVotes x = Checks.told("t0 1 1 1;");
        for (int times = 0; times < 490; times++) {
            x.rate(5, 0);
        }
        C.due("as often as calls allow", x.trace(), 490L * 100001);
    }

    private static void refusedRatesAddNothing() {
        ShadeVotes x = Checks.told(TEXT);
        x.rate(3, 0);
        for (int[] wrong : new int[][] {{-1, 0}, {6, 0}, {0, -1}, {0, 2}, {5, 2}, {3, Integer.MAX_VALUE},
            {Integer.MIN_VALUE, 0}, {6, 2}}) {
            C.due("refused", x.rate(wrong[0], wrong[1]), NO);
            C.due("it adds nothing", x.trace(), 1011);
        }
    }

    /** It is not among what is undone, kept or told anew; and each object has its own. */
    private static void theTraceIsOfTheObject() {
        ShadeVotes x = Checks.told(TEXT);
        x.keep(0);
        x.rate(1, 0);
        x.grows();
        x.undo();
        C.due("behind undo()", x.trace(), 11);
        x.back(0);
        C.due("behind back()", x.trace(), 11);
        Checks.tell(x, "x");
        C.due("behind a fault", x.trace(), 11);
        Checks.tell(x, TEXT);
        C.due("behind commune()", x.trace(), 11);
        x.rate(0, 1);
        C.due("it goes on", x.trace(), 12);
        C.due("of another object", new ShadeVotes().trace(), 0);
        long before = x.trace();
        x.share(0);
        x.cool(0);
        x.movers(1, 9);
        x.plant(2, 20);
        C.due("by questions it stays", x.trace(), before);
    }

    /** "IMAGES 0, 1"; promises 31, 32: "BAD". */
    private static void imagesAre0And1() {
        ShadeVotes x = Checks.told(TEXT);
        for (int image : new int[] {-1, 2, 3, 256, Integer.MIN_VALUE, Integer.MAX_VALUE}) {
            C.due("keep " + image, x.keep(image), BAD);
            C.due("back " + image, x.back(image), BAD);
        }
        C.due("image 0 was not kept by these", x.back(0), STATE);
        C.due("image 1 was not kept by these", x.back(1), STATE);
        C.due("keep 0", x.keep(0), 0);
        C.due("keep 1", x.keep(1), 0);
        for (int image : new int[] {-1, 2, Integer.MIN_VALUE, Integer.MAX_VALUE}) {
            C.due("back " + image + " with both kept", x.back(image), BAD);
        }
        C.due("back 0", x.back(0), 0);
        C.due("back 1", x.back(1), 0);
    }

    /** Promise 32: "STATE: none was kept", each of the two by itself. */
    private static void anImageIsKeptOrNot() {
        for (int image = 0; image <= 1; image++) {
            ShadeVotes x = Checks.told(TEXT);
            C.due("none was kept", x.back(image), STATE);
            C.due("kept", x.keep(image), 0);
            x.grows();
            C.due("the other was not", x.back(1 - image), STATE);
            C.due("that changes nothing", x.now(0) + x.now(4), 2);
            C.due("this one was", x.back(image), 0);
            C.due("it is kept still", x.back(image), 0);
        }
        ShadeVotes x = new ShadeVotes();
        C.due("of a new object", x.keep(1), 0);
        x.plants(0, 1);
        C.due("back to it", x.back(1), 0);
        C.due("no trees", x.now(3), 0);
    }

    /** "keep NOW (TREES, PEOPLE, SUN, WINTER, the DAY)". */
    private static void imagesKeepNow() {
        for (Stage stage : Stage.values()) {
            ShadeVotes x = stage.make();
            List<Long> before = Eyes.look(x);
            int day = x.now(0);
            C.due("keep", x.keep(1), day);
            C.holds("keep changes nothing that is asked", Eyes.look(x).equals(before));
            changeAll(x);
            C.due("back", x.back(1), day);
            // What may be undone is gone, as told; all else is as it was.
            before.set(before.size() - 4, 0L);
            C.holds("all is as it was", Eyes.look(x).equals(before));
        }
    }

    private static void changeAll(ShadeVotes x) {
        for (int p = 0; p < 7; p++) {
            x.moves(p, 0);
            x.moves(p, 3);
            x.moves(p, 2);
            x.moves(p, 2);
        }
        x.prunes(0, 2);
        x.grows();
        x.fells(1);
        for (int cell = 0; cell < 5; cell++) {
            x.plants(cell, 2);
        }
        x.winter(1 - x.now(2));
        x.sun(x.now(1) % 9 + 1);
    }

    /** "nothing else": not the counts, not the text, not the trace. */
    private static void imagesKeepNothingElse() {
        ShadeVotes x = Checks.told(TEXT);
        x.counted(0, 3);
        Checks.type(x, "s1;");
        x.rate(0, 0);
        x.keep(0);
        x.counted(1, 28);
        Checks.type(x, "p1 1;");
        x.rate(5, 0);
        C.due("back", x.back(0), 0);
        C.due("counts are as they are", x.count(3), 2);
        C.due("they count", x.mayBe(), 0);
        C.due("the text is as it is", x.count(4), 8);
        C.due("the trace is as it is", x.trace(), 100002);
        x.keep(1);
        x.forget();
        x.clear();
        x.back(1);
        C.due("what was forgotten stays so", x.count(3), 0);
        C.due("what was cleared stays so", x.count(4), 0);
    }

    /** What is done behind keep(), and behind back(), does not reach the image; keep() again makes it another. */
    private static void anImageStaysAsItWas() {
        ShadeVotes x = Checks.told(TEXT);
        x.keep(0);
        for (int times = 0; times < 3; times++) {
            changeAll(x);
            C.due("back", x.back(0), 0);
            C.due("height", x.tree(0, 1), 7);
            C.due("not felled", x.tree(1, 5), 0);
            C.due("trees", x.now(3), 2);
            C.due("cell", x.person(0, 0), 8);
            C.due("sun", x.now(1), 4);
            C.due("summer", x.now(2), 0);
        }
        x.grows();
        x.keep(1);
        x.grows();
        C.due("kept anew", x.keep(0), 2);
        C.due("the other stays", x.back(1), 1);
        C.due("this is another", x.back(0), 2);
        C.due("of that height", x.tree(0, 1), 9);
    }

    /** "nothing can be UNDONE behind back()"; behind keep() all that could be. */
    private static void nothingIsUndoneBehindBack() {
        ShadeVotes x = Checks.told(TEXT);
        x.grows();
        x.grows();
        x.keep(0);
        C.due("behind keep()", x.now(4), 2);
        x.grows();
        x.back(0);
        C.due("behind back()", x.now(4), 0);
        C.due("undo", x.undo(), STATE);
        C.due("day", x.now(0), 2);
        x.grows();
        C.due("what comes then can be", x.now(4), 1);
        C.due("undone", x.undo(), 0);
        C.due("to the image's day", x.now(0), 2);
        C.due("no more", x.undo(), STATE);
        for (int i = 0; i < 12; i++) {
            x.grows();
        }
        x.back(0);
        C.due("not of ten, either", x.undo(), STATE);
        x.sun(8);
        C.due("a refused back() leaves it", x.back(1), STATE);
        C.due("one", x.now(4), 1);
        C.due("a bad one, too", x.back(2), BAD);
        C.due("undone is the sun", x.undo(), 0);
        C.due("sun", x.now(1), 4);
    }

    /** "Read anew: as told, summer, DAY 0, nothing COUNTED, IMAGES are gone." */
    private static void imagesAreGoneWhenAllIsToldAnew() {
        ShadeVotes x = Checks.told(TEXT);
        x.grows();
        x.keep(0);
        x.keep(1);
        x.counted(0, 3);
        x.winter(1);
        C.due("a fault", Checks.tell(x, "g2 2;;"), -15);
        C.due("image 0 behind a fault", x.back(0), 1);
        C.due("image 1 behind a fault", x.back(1), 1);
        C.due("counted behind a fault", x.count(3), 1);
        x.winter(1);
        C.due("told anew", Checks.tell(x, TEXT), 7);
        C.due("image 0", x.back(0), STATE);
        C.due("image 1", x.back(1), STATE);
        C.due("nothing counted", x.count(3), 0);
        C.due("day", x.now(0), 0);
        C.due("summer", x.now(2), 0);
        C.due("height as told", x.tree(0, 1), 7);
        C.due("nothing to undo", x.undo(), STATE);
        C.due("kept then", x.keep(1), 0);
        C.due("image 0 is gone still", x.back(0), STATE);
        C.due("image 1 is there", x.back(1), 0);
    }

    /** Promise 33. */
    private static void countsOfWhatThereIs() {
        ShadeVotes x = Checks.told("g5 2;" + "p0 1;".repeat(7));
        for (int i = 0; i < 5; i++) {
            x.counted(0, 0);
        }
        Checks.type(x, "x".repeat(200));
        int[] due = {5, 2, 7, 5, 200};
        for (int what = -1; what <= 5; what++) {
            C.due("count " + what, x.count(what), what >= 0 && what < 5 ? due[what] : BAD);
        }
        x.grows();
        x.back(0);
        x.undo();
        C.due("w stays", x.count(0), 5);
        C.due("h stays", x.count(1), 2);
    }
}

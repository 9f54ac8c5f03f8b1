import java.util.ArrayList;
import java.util.List;
import java.util.regex.Matcher;
import java.util.regex.Pattern;

/** Each sentence of the document's section 1 (and promises 1 to 4) that names a bound, on both sides of it. */
public final class TextBoundsTest {
    private static final int BAD = -1, STATE = -2, FULL = -3, NONE = -9;
    private static final Checks C = new Checks();
    // Every kind of item, every number standing as a cut one would, too: its beginnings end too early, no more.
    private static final String ALL = "g5 4;t19 20 1 7;p18 4;s9;p0 1;t0 10 0 0;";

    public static void main(String[] args) {
        anObjectIsGoodFor512Calls();
        theFirstLand();
        landIs2To5Wide2To4High();
        cellsGoRowByRowTheFirstRowNorth();
        cellsOfEachLand();
        treesAreFiveAtMost();
        treesHaveUnlikeCells();
        heightIs0To20();
        evergreenIs1Not0();
        wantsAreThreeBits();
        peopleAreSevenAtMost();
        peopleMayHaveAlikeCells();
        weightIs1To4();
        sunIs1To9And3AtFirst();
        textHas200LettersAtMost();
        letterIs0To255();
        emptyTextTellsAllAnew();
        landIsTheFirstOfAllIfItIsTold();
        sunIsToldOnceAtMost();
        blanksAreBetweenTokens();
        tokensThatCannotStandThere();
        anyOtherLetter();
        numbersAbove20();
        numbersWithA0Ahead();
        textsThatEndTooEarly();
        theFirstFaultCounts();
        aFaultChangesNothing();
        clearEmptiesTheText();
        nothingIsLeftOfAnOlderText();
        C.end("TextBoundsTest");
    }

    private static void tells(String text, int items) {
        ShadeVotes x = new ShadeVotes();
        C.due("letters of [" + text + "]", Checks.type(x, text), text.length());
        C.due("commune of [" + text + "]", x.commune(), items);
        C.due("letters behind [" + text + "]", x.count(4), 0);
    }

    private static void fault(String text, int place) {
        ShadeVotes x = Checks.told("g2 4;t1 5 1 2;p1 3;s8;");
        Checks.type(x, text);
        C.due("fault of [" + text + "]", x.commune(), -10 - place);
        C.due("letters behind the fault of [" + text + "]", x.count(4), text.length());
        C.due("w behind the fault of [" + text + "]", x.count(0), 2);
        C.due("h behind the fault of [" + text + "]", x.count(1), 4);
        C.due("height behind the fault of [" + text + "]", x.tree(0, 1), 5);
        C.due("trees behind the fault of [" + text + "]", x.now(3), 1);
        C.due("people behind the fault of [" + text + "]", x.count(2), 1);
        C.due("sun behind the fault of [" + text + "]", x.now(1), 8);
    }

    /** "An object is used for at most 512 calls after it has been made." */
    private static void anObjectIsGoodFor512Calls() {
        ShadeVotes x = new ShadeVotes();
        for (int call = 1; call <= 511; call++) {
            C.due("call " + call, x.grows(), call);
        }
        C.due("call 512", x.undo(), 9);
        ShadeVotes y = new ShadeVotes();
        for (int call = 1; call <= 200; call++) {
            C.due("letter " + call, y.type(' '), call);
        }
        for (int call = 201; call <= 511; call++) {
            C.due("letter " + call, y.type(' '), FULL);
        }
        C.due("call 512 of the other", y.commune(), 0);
    }

    /** "3, 3 at first"; promise 1: "As told; no TREES, nobody." */
    private static void theFirstLand() {
        ShadeVotes x = new ShadeVotes();
        C.due("w at first", x.count(0), 3);
        C.due("h at first", x.count(1), 3);
        C.due("no trees at first", x.now(3), 0);
        C.due("tree 0 at first", x.tree(0, 0), BAD);
        C.due("nobody at first", x.count(2), 0);
        C.due("person 0 at first", x.person(0, 0), BAD);
        C.due("nothing counted at first", x.count(3), 0);
        C.due("no letters at first", x.count(4), 0);
        C.due("day at first", x.now(0), 0);
        C.due("sun at first", x.now(1), 3);
        C.due("summer at first", x.now(2), 0);
        C.due("nothing to undo at first", x.undo(), STATE);
        C.due("image 0 at first", x.back(0), STATE);
        C.due("image 1 at first", x.back(1), STATE);
        C.due("trace at first", x.trace(), 0);
        C.due("the last cell", x.dark(8), 0);
        C.due("a cell more", x.dark(9), BAD);
        C.due("the last cell for a tree", x.plants(8, 1), 0);
        C.due("a cell more for a tree", x.plants(9, 1), BAD);
        tells("p8 1;t8 1 1 1;", 2);
        fault("p9 1;", 1);
        fault("t9 1 1 1;", 1);
    }

    /** "CELLS of a land w wide, h high (2 .. 5, 2 .. 4)". */
    private static void landIs2To5Wide2To4High() {
        for (int w = 0; w <= 20; w++) {
            for (int h = 0; h <= 20; h++) {
                String text = "g" + w + " " + h + ";";
                boolean isWide = w >= 2 && w <= 5;
                boolean isHigh = h >= 2 && h <= 4;
                if (isWide && isHigh) {
                    ShadeVotes x = Checks.told(text);
                    C.due("w of " + text, x.count(0), w);
                    C.due("h of " + text, x.count(1), h);
                } else {
                    fault(text, isWide ? text.indexOf(' ') + 1 : 1);
                }
            }
        }
    }

    /** "row by row, the first row north". */
    private static void cellsGoRowByRowTheFirstRowNorth() {
        ShadeVotes x = Checks.told("g4 3;p0 1;p3 1;p4 1;t9 20 1 1;s1;");
        C.due("down from 0", x.moves(0, 2), 4);
        C.due("down from 3", x.moves(1, 2), 7);
        C.due("nothing is left of 4", x.moves(2, 3), STATE);
        C.due("nothing is right of 3", x.moves(1, 0) + x.moves(1, 1), 3 + STATE);
        C.due("north of 9 are 5 and 1", x.tree(0, 4), 1 << 9 | 1 << 5 | 1 << 1);
    }

    /** "a CELL that there is not", in each land. */
    private static void cellsOfEachLand() {
        for (int w = 2; w <= 5; w++) {
            for (int h = 2; h <= 4; h++) {
                String land = "g" + w + " " + h + ";";
                int cells = w * h;
                tells(land + "p" + (cells - 1) + " 1;t" + (cells - 1) + " 1 1 1;", 3);
                tells(land + "p0 1;t0 1 1 1;", 3);
                fault(land + "p" + cells + " 1;", 6);
                fault(land + "t" + cells + " 1 1 1;", 6);
            }
        }
    }

    private static String trees(int n) {
        StringBuilder s = new StringBuilder();
        for (int t = 0; t < n; t++) {
            s.append('t').append(t).append(" 1 1 1;");
        }
        return s.toString();
    }

    /** "TREES 0 .. (5 at most)", "a sixth t". */
    private static void treesAreFiveAtMost() {
        for (int n = 0; n <= 5; n++) {
            tells(trees(n), n);
            ShadeVotes x = Checks.told(trees(n));
            C.due("trees", x.now(3), n);
            C.due("the last tree", x.tree(n - 1, 0), n == 0 ? BAD : n - 1);
            C.due("a tree more", x.tree(n, 0), BAD);
        }
        fault(trees(5) + "t", 45);
        fault(trees(5) + "t5 1 1 1;", 45);
        fault(trees(5) + "p0 1;  t5 1 1 1;", 52);
        fault(trees(6), 45);
        fault("g5 4;" + trees(5) + "t9 1 1 1;", 50);
    }

    /** "a CELL (unlike ones)", "one with a TREE for t". */
    private static void treesHaveUnlikeCells() {
        fault("t0 1 1 1;t0 1 1 1;", 10);
        fault("t8 1 1 1;t0 1 1 1;t8 1 1 1;", 19);
        fault("t0 0 1 1; t 0 1 1 1;", 12);
        fault(trees(4) + "t3 1 1 1;", 37);
        fault(trees(4) + "t0 1 1 1;", 37);
        tells("t0 1 1 1;p0 1;", 2);
        tells("p0 1;t0 1 1 1;", 2);
    }

    /** "HEIGHT (0 .. 20)". */
    private static void heightIs0To20() {
        for (int height = 0; height <= 20; height++) {
            C.due("height " + height, Checks.told("t4 " + height + " 1 1;").tree(0, 1), height);
        }
        fault("t4 21 1 1;", 3);
        fault("t4 -1 1 1;", 3);
    }

    /** "E 1 EVERGREEN, 0 not". */
    private static void evergreenIs1Not0() {
        C.due("evergreen", Checks.told("t4 1 1 1;").tree(0, 2), 1);
        C.due("not evergreen", Checks.told("t4 1 0 1;").tree(0, 2), 0);
        for (int e = 2; e <= 20; e++) {
            fault("t4 1 " + e + " 1;", 5);
        }
    }

    /** "WANTS (MOTIONS 0 .. 2 as bits)". */
    private static void wantsAreThreeBits() {
        for (int wants = 0; wants <= 7; wants++) {
            ShadeVotes x = Checks.told("t4 1 1 " + wants + ";p4 3;");
            C.due("wants " + wants, x.tree(0, 3), wants);
            for (int m = 0; m <= 2; m++) {
                C.due("motion " + m + " of wants " + wants, x.motion(m, 0), (wants >> m & 1) * 3);
            }
        }
        for (int wants = 8; wants <= 20; wants++) {
            fault("t4 1 1 " + wants + ";", 7);
        }
    }

    /** "PEOPLE 0 .. (7 at most)", "an eighth p". */
    private static void peopleAreSevenAtMost() {
        for (int n = 0; n <= 7; n++) {
            tells("p1 1;".repeat(n), n);
            ShadeVotes x = Checks.told("p1 1;".repeat(n));
            C.due("people", x.count(2), n);
            C.due("the last person", x.person(n - 1, 0), n == 0 ? BAD : 1);
            C.due("a person more", x.person(n, 0), BAD);
        }
        fault("p0 1;".repeat(7) + "p", 35);
        fault("p0 1;".repeat(8), 35);
        fault("p0 1;".repeat(7) + "s1;  p0 1;", 40);
        fault("p0 1;".repeat(7) + trees(1) + "p9 1;", 44);
    }

    /** "a CELL (alike ones may be)". */
    private static void peopleMayHaveAlikeCells() {
        ShadeVotes x = Checks.told("t5 1 1 1;" + "p5 4;".repeat(7));
        C.due("all seven at one cell", x.motion(0, 0), 28);
        C.due("the last one's cell", x.person(6, 0), 5);
        C.due("the last one is under it", x.person(6, 2), 0);
    }

    /** "WEIGHT (1 .. 4)". */
    private static void weightIs1To4() {
        for (int weight = 1; weight <= 4; weight++) {
            C.due("weight " + weight, Checks.told("p4 " + weight + ";").person(0, 1), weight);
        }
        fault("p4 0;", 3);
        for (int weight = 5; weight <= 20; weight++) {
            fault("p4 " + weight + ";", 3);
        }
    }

    /** "SUN (1 .. 9; 3 at first)". */
    private static void sunIs1To9And3AtFirst() {
        for (int sun = 1; sun <= 9; sun++) {
            C.due("sun " + sun, Checks.told("s" + sun + ";").now(1), sun);
        }
        fault("s0;", 1);
        for (int sun = 10; sun <= 20; sun++) {
            fault("s" + sun + ";", 1);
        }
        ShadeVotes x = Checks.told("s8;");
        Checks.tell(x, "p0 1;");
        C.due("a sun that is not told", x.now(1), 3);
    }

    /** "a text (200 letters at most)", promise 2: "how many it has. BAD; FULL." */
    private static void textHas200LettersAtMost() {
        ShadeVotes x = new ShadeVotes();
        for (int i = 1; i <= 199; i++) {
            C.due("letter " + i, x.type(' '), i);
        }
        C.due("letter 200", x.type('x'), 200);
        C.due("letter 201", x.type('p'), FULL);
        C.due("letters", x.count(4), 200);
        C.due("the last letter is one of it, the one behind it is not", x.commune(), -10 - 199);
        C.due("all of them", x.clear(), 200);
        C.due("room again", x.type('s'), 1);
        tells(" ".repeat(195) + "p4 2;", 1);
        tells(" ".repeat(200), 0);
        fault(" ".repeat(196) + "p4 2", 200);
    }

    /** Promise 2: "A letter (0 .. 255)". */
    private static void letterIs0To255() {
        ShadeVotes x = new ShadeVotes();
        for (int letter = 0; letter <= 255; letter++) {
            C.due("letter " + letter, x.type(letter), letter % 128 + 1);
            if (letter % 128 == 127) {
                x.clear();
            }
        }
        for (int letter : new int[] {-1, 256, -256, 256 + 'p', Integer.MIN_VALUE, Integer.MAX_VALUE}) {
            C.due("letter " + letter, x.type(letter), BAD);
            C.due("letters behind " + letter, x.count(4), 0);
        }
    }

    /** An empty text, and one of blanks: no item; all is told anew even so. */
    private static void emptyTextTellsAllAnew() {
        for (int blanks : new int[] {0, 1, 200}) {
            ShadeVotes x = Checks.told("g5 2;t9 4 1 1;p9 2;s7;");
            x.winter(1);
            x.grows();
            x.keep(0);
            x.keep(1);
            x.counted(0, 2);
            x.rate(0, 0);
            Checks.type(x, " ".repeat(blanks));
            C.due("no items in blanks " + blanks, x.commune(), 0);
            C.due("w anew", x.count(0), 3);
            C.due("h anew", x.count(1), 3);
            C.due("nobody anew", x.count(2), 0);
            C.due("nothing counted anew", x.count(3), 0);
            C.due("letters anew", x.count(4), 0);
            C.due("day anew", x.now(0), 0);
            C.due("sun anew", x.now(1), 3);
            C.due("summer anew", x.now(2), 0);
            C.due("no trees anew", x.now(3), 0);
            C.due("nothing to undo anew", x.now(4), 0);
            C.due("undo anew", x.undo(), STATE);
            C.due("image 0 is gone", x.back(0), STATE);
            C.due("image 1 is gone", x.back(1), STATE);
            C.due("the trace stays", x.trace(), 1);
        }
    }

    /** "g W H (the land; the first of all, if it is told)", "g behind another ITEM". */
    private static void landIsTheFirstOfAllIfItIsTold() {
        tells("g2 2;", 1);
        tells("   g2 2;p3 1;", 2);
        tells("p8 1;", 1);
        fault("g2 2;g2 2;", 5);
        fault("g2 2;g", 5);
        fault("p0 1;g2 2;", 5);
        fault("t0 1 1 1;g2 2;", 9);
        fault("s1;g2 2;", 3);
        fault("s1;  g2 2;", 5);
        fault("g2 2;p0 1;g2 2;", 10);
    }

    /** "s N (SUN; once at most)", "s again". */
    private static void sunIsToldOnceAtMost() {
        tells("s1;", 1);
        tells("g2 2;s1;p0 1;", 3);
        fault("s1;s1;", 3);
        fault("s1;s", 3);
        fault("s1;p0 1; s2;", 9);
        fault("g2 2;s9;t0 1 1 1;s9;", 17);
        ShadeVotes x = Checks.told("s4;");
        C.due("the next text may tell one, too", Checks.tell(x, "s5;"), 1);
        C.due("and it counts", x.now(1), 5);
    }

    /** "blanks (32) between TOKENS": any number of them; between a letter and a number none is needed. */
    private static void blanksAreBetweenTokens() {
        for (int blanks = 1; blanks <= 3; blanks++) {
            StringBuilder s = new StringBuilder();
            for (int place : tokenPlaces(ALL)) {
                s.append(" ".repeat(blanks)).append(tokenAt(ALL, place));
            }
            tells(s + " ".repeat(blanks), 6);
        }
        tells(ALL, 6);
        fault("g33;", 1);
        fault("t4 111;", 3);
        fault("p41;", 1);
        fault("p1 3 ;p1 1 3;", 11);
        fault("p4\t1;", 2);
        fault("p4\n1;", 2);
        fault("p4" + (char) 160 + "1;", 2);
        fault("p4" + (char) 0 + "1;", 2);
    }

    private static List<Integer> tokenPlaces(String text) {
        List<Integer> places = new ArrayList<>();
        Matcher matcher = Pattern.compile("[0-9]+|[^ ]").matcher(text);
        while (matcher.find()) {
            places.add(matcher.start());
        }
        return places;
    }

    private static String tokenAt(String text, int place) {
        Matcher matcher = Pattern.compile("[0-9]+|[^ ]").matcher(text);
        return matcher.find(place) ? matcher.group() : "";
    }

    /** "the first TOKEN that can't stand there": each other kind of token at each place of a text. */
    private static void tokensThatCannotStandThere() {
        for (int place : tokenPlaces(ALL)) {
            String due = tokenAt(ALL, place);
            boolean isHead = "gtps".contains(due);
            for (String other : new String[] {"g", "t", "p", "s", ";", "1"}) {
                boolean isAlike = "gtps".contains(other) ? isHead : other.equals(";") == due.equals(";") && !isHead;
                if (!isAlike) {
                    fault(ALL.substring(0, place) + " " + other, place + 1);
                    fault(ALL.substring(0, place) + "  " + other + ALL.substring(place + due.length()), place + 2);
                }
            }
        }
        fault(";", 0);
        fault("p0 1;;", 5);
        fault("t0 1 1 1 1;", 9);
        fault("g2 2 2;", 5);
        fault("p0 1 1;", 5);
        fault("s1 1;", 3);
    }

    /** "of any other letter .. that TOKEN's": each such letter at each token's place, and at the end. */
    private static void anyOtherLetter() {
        List<Integer> places = tokenPlaces(ALL);
        places.add(ALL.length());
        for (int letter = 0; letter <= 255; letter++) {
            if (" ;gtps0123456789".indexOf(letter) >= 0) {
                continue;
            }
            for (int place : places) {
                ShadeVotes x = new ShadeVotes();
                Checks.type(x, ALL.substring(0, place) + (char) letter + ALL.substring(place));
                C.due("letter " + letter + " at " + place, x.commune(), -10 - place);
            }
        }
    }

    /** "a NUMBER above 20": at each number's place, and such as would wrap around. */
    private static void numbersAbove20() {
        for (int place : tokenPlaces(ALL)) {
            String due = tokenAt(ALL, place);
            if (due.charAt(0) < '0' || due.charAt(0) > '9') {
                continue;
            }
            for (String number : new String[] {"21", "22", "99", "100", "210", "256", "65537", "4294967297",
                "18446744073709551617", "1".repeat(90)}) {
                fault(ALL.substring(0, place) + number + ALL.substring(place + due.length()), place);
            }
        }
        fault("21;", 0);
        fault("p0 1 21", 5);
        tells("g5 4;t19 20 1 1;", 2);
        fault("g5 4;t20 20 1 1;", 6);
    }

    /** "with a 0 ahead of others": at each number's place, ahead of what would stand there, too. */
    private static void numbersWithA0Ahead() {
        for (int place : tokenPlaces(ALL)) {
            String due = tokenAt(ALL, place);
            if (due.charAt(0) < '0' || due.charAt(0) > '9') {
                continue;
            }
            for (String zeros : new String[] {"0", "00", "0".repeat(80)}) {
                fault(ALL.substring(0, place) + zeros + ALL.substring(place), place);
            }
        }
        fault("t00 1 1 1;", 1);
        fault("t0 00 1 1;", 3);
        fault("t0 1 00 1;", 5);
        fault("t0 1 1 00;", 7);
        fault("t0 1 1 000", 7);
        tells("t0 0 0 0;", 1);
        tells("t1 10 0 0;", 1);
    }

    /** "the text's length, if it ends too early": every beginning that is not whole items, with blanks behind it, too. */
    private static void textsThatEndTooEarly() {
        for (int length = 0; length <= ALL.length(); length++) {
            String text = ALL.substring(0, length);
            int items = text.length() - text.replace(";", "").length();
            boolean isWhole = text.isEmpty() || text.endsWith(";");
            for (int blanks = 0; blanks <= 2; blanks++) {
                String told = text + " ".repeat(blanks);
                if (isWhole) {
                    tells(told, items);
                } else {
                    fault(told, told.length());
                }
            }
        }
    }

    /** What is behind the first fault does not count; what is ahead of it must stand. */
    private static void theFirstFaultCounts() {
        fault("p9 1;x", 1);
        fault("p0 5;p9 1;", 3);
        fault("x p9 1;", 0);
        fault("p0 1;x 021", 5);
        fault("g6 5;", 1);
        fault("t9 21 2 8;", 1);
        fault("t0 21 2 8;", 3);
        fault("t0 20 2 8;", 6);
        fault("t0 20 1 8;", 8);
        fault("p9", 1);
        fault("s0", 1);
    }

    /** Promise 4: "-10 less FAULT: nothing changes"; and once it stands, it is told. */
    private static void aFaultChangesNothing() {
        ShadeVotes x = Checks.told("g2 4;t1 5 1 2;p1 3;s8;");
        x.grows();
        x.keep(0);
        x.counted(1, 3);
        List<Long> before = Eyes.look(x);
        Checks.type(x, "g5 4;t0 1 1 1;t0");
        C.due("the fault", x.commune(), -10 - 15);
        C.due("the letters stay", x.clear(), 16);
        C.holds("all else stays", Eyes.look(x).equals(before));
        C.due("the image stays", x.back(0), 1);
        Checks.type(x, "g5 4;t0 1 1 1;");
        C.due("without it", x.commune(), 2);
        C.due("the text is empty then", x.clear(), 0);
        C.due("one tree", x.now(3), 1);
        C.due("nobody", x.count(2), 0);
        C.due("under nothing", x.person(0, 2), BAD);
        C.due("no shade but its own", x.dark(0) + x.dark(1), 1);
        C.due("no sun that carries it", x.suns(0), 0);
        C.due("none", x.hedge(0), NONE);
    }

    /** Promise 3: "THE TEXT is empty: how many letters it had." */
    private static void clearEmptiesTheText() {
        ShadeVotes x = new ShadeVotes();
        C.due("of an empty text", x.clear(), 0);
        x.type('x');
        C.due("of one letter", x.clear(), 1);
        C.due("nothing is left of it", x.commune(), 0);
        Checks.type(x, "x".repeat(200));
        C.due("of 200 letters", x.clear(), 200);
        C.due("again", x.clear(), 0);
        Checks.type(x, "p2 3;");
        C.due("what comes then is told", x.commune(), 1);
        C.due("his cell", x.person(0, 0), 2);
        C.due("behind commune()", x.clear(), 0);
    }

    /** "THE TEXT tells all anew": what told more before leaves no tree, no shade, nobody, no sun. */
    private static void nothingIsLeftOfAnOlderText() {
        ShadeVotes x = Checks.told("t6 20 1 7;t7 20 1 7;t8 20 1 7;t0 20 1 7;t1 20 1 7;p0 4;p1 4;p2 4;p3 4;p4 4;s1;");
        Checks.tell(x, "t8 1 1 2;p8 1;");
        for (int cell = 0; cell < 9; cell++) {
            C.due("dark of " + cell, x.dark(cell), cell == 8 ? 1 : 0);
        }
        C.due("sun", x.now(1), 3);
        C.due("trees", x.now(3), 1);
        C.due("tree 1", x.tree(1, 0), BAD);
        C.due("people", x.count(2), 1);
        C.due("person 1", x.person(1, 0), BAD);
        C.due("for", x.motion(1, 0), 1);
        C.due("against", x.motion(0, 1), 1);
        C.due("share", x.share(0), 100);
        C.due("movers", x.movers(0, 9), NONE);
        C.due("prune", x.prune(0), NONE);
        C.due("cool", x.cool(0), 8);
        C.due("the next tree", x.plants(0, 0), 1);
    }
}

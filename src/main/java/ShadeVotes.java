/** A commune in which trees vote: whoever is in a tree's shade at noon counts for it. */
public final class ShadeVotes {
    public static final int BAD = -1, STATE = -2, FULL = -3, NONE = -9;
    /** What none is, where a number may be below 0. */
    public static final int NO = -1000000;

    private static final int MOST_LETTERS = 200;
    private static final int HIGHEST_LETTER = 255;
    private static final int LEAST_SIDE = 2;
    private static final int MOST_WIDE = 5;
    private static final int MOST_HIGH = 4;
    private static final int MOST_TREES = 5;
    private static final int MOST_PEOPLE = 7;
    private static final int MOST_HEIGHT = 20;
    private static final int MOST_WEIGHT = 4;
    private static final int MOST_WEIGHT_OF_ALL = 28;
    private static final int MOST_SUN = 9;
    private static final int MOTIONS = 3;
    private static final int ALL_WANTS = 7;
    private static final int LAST_DAY = 999;
    private static final int MOST_UNDONE = 10;
    private static final int MOST_STEPS = 9;
    private static final int MOST_COUNTED = 5;
    private static final int CHANCES = 10;
    private static final int IMAGES = 2;
    private static final int FIRST_FAULT = -10;

    private final Text text = new Text();
    private final Commune present = new Commune();
    // A text that turns out to be at fault must leave the present as it is.
    private final Commune told = new Commune();
    private final Past past = new Past();
    private final Question question = new Question();
    private final Tally tally = new Tally();
    private final Kinds kinds = new Kinds();
    private final Commune[] images = new Commune[IMAGES];
    private final boolean[] isKept = new boolean[IMAGES];

    public ShadeVotes() {
        for (int i = 0; i < IMAGES; i++) {
            images[i] = new Commune();
        }
    }

    // ---- the commune

    public int type(int letter) {
        if (!isWithin(letter, 0, HIGHEST_LETTER)) {
            return BAD;
        }
        return text.add(letter) ? text.length : FULL;
    }

    public int clear() {
        return text.empty();
    }

    public int commune() {
        int items = text.tell(told);
        if (items < 0) {
            return items;
        }
        text.empty();
        present.become(told);
        past.lose();
        tally.empty();
        for (int i = 0; i < IMAGES; i++) {
            isKept[i] = false;
        }
        return items;
    }

    public int tree(int t, int what) {
        if (!present.hasTree(t)) {
            return BAD;
        }
        switch (what) {
            case 0:
                return present.treeCell[t];
            case 1:
                return present.treeHeight[t];
            case 2:
                return asNumber(present.treeEvergreen[t]);
            case 3:
                return present.treeWants[t];
            case 4:
                return present.shadeOf(t);
            case 5:
                return asNumber(present.treeFelled[t]);
            default:
                return BAD;
        }
    }

    public int person(int p, int what) {
        if (!present.hasPerson(p)) {
            return BAD;
        }
        switch (what) {
            case 0:
                return present.personCell[p];
            case 1:
                return present.personWeight[p];
            case 2:
                return present.treeOver(present.personCell[p]);
            default:
                return BAD;
        }
    }

    public int motion(int m, int what) {
        if (!isMotion(m)) {
            return BAD;
        }
        switch (what) {
            case 0:
                return present.weightBehind(m, 1);
            case 1:
                return present.weightBehind(m, -1);
            case 2:
                return asNumber(present.isCarried(m));
            default:
                return BAD;
        }
    }

    public int now(int what) {
        switch (what) {
            case 0:
                return present.day;
            case 1:
                return present.sunlight;
            case 2:
                return asNumber(present.isWinter);
            case 3:
                return present.trees;
            case 4:
                return past.size;
            default:
                return BAD;
        }
    }

    // ---- what is done

    public int moves(int p, int way) {
        if (!present.hasPerson(p) || !isWithin(way, 0, 3)) {
            return BAD;
        }
        int cell = present.neighbour(present.personCell[p], way);
        if (cell == NONE) {
            return STATE;
        }
        past.remember(present);
        present.personCell[p] = cell;
        return cell;
    }

    public int prunes(int t, int n) {
        if (!present.hasTree(t) || !isWithin(n, 1, MOST_HEIGHT)) {
            return BAD;
        }
        past.remember(present);
        present.lower(t, n);
        return present.treeHeight[t];
    }

    public int grows() {
        if (present.day >= LAST_DAY) {
            return STATE;
        }
        past.remember(present);
        present.growAll();
        present.day++;
        return present.day;
    }

    public int plants(int c, int wants) {
        if (!present.hasCell(c) || !isWithin(wants, 0, ALL_WANTS)) {
            return BAD;
        }
        if (present.hasTreeAt(c)) {
            return STATE;
        }
        if (present.trees >= MOST_TREES) {
            return FULL;
        }
        past.remember(present);
        present.addTree(c, 1, false, wants);
        return present.trees - 1;
    }

    public int fells(int t) {
        if (!present.hasTree(t)) {
            return BAD;
        }
        if (present.treeFelled[t]) {
            return STATE;
        }
        past.remember(present);
        int height = present.treeHeight[t];
        present.treeHeight[t] = 0;
        present.treeFelled[t] = true;
        return height;
    }

    public int winter(int is) {
        if (!isWithin(is, 0, 1)) {
            return BAD;
        }
        past.remember(present);
        int was = asNumber(present.isWinter);
        present.isWinter = is == 1;
        return was;
    }

    public int sun(int s) {
        if (!isWithin(s, 1, MOST_SUN)) {
            return BAD;
        }
        past.remember(present);
        int was = present.sunlight;
        present.sunlight = s;
        return was;
    }

    public int undo() {
        if (past.size == 0) {
            return STATE;
        }
        past.restore(present);
        return past.size;
    }

    // ---- so that it is carried

    public int movers(int m, int k) {
        if (!isMotion(m) || !isWithin(k, 0, MOST_STEPS)) {
            return BAD;
        }
        return question.fewestMovers(present, m, k);
    }

    public int prune(int m) {
        return isMotion(m) ? question.leastPruning(present, m) : BAD;
    }

    public int plant(int m, int n) {
        if (!isMotion(m) || !isWithin(n, 1, MOST_HEIGHT)) {
            return BAD;
        }
        return question.cellToPlant(present, m, n);
    }

    public int suns(int m) {
        return isMotion(m) ? question.carryingSuns(present, m) : BAD;
    }

    public int hedge(int m) {
        return isMotion(m) ? question.partingColumn(present, m) : BAD;
    }

    // ---- shares, counts, odds

    public int share(int t) {
        if (!present.hasTree(t)) {
            return BAD;
        }
        return cut(100 * present.weightUnder(t), present.weightUnderTrees());
    }

    public int counted(int m, int v) {
        if (!isMotion(m) || !isWithin(v, 0, MOST_WEIGHT_OF_ALL)) {
            return BAD;
        }
        return tally.add(m, v) ? tally.size : FULL;
    }

    public int forget() {
        return tally.empty();
    }

    public int mayBe() {
        return question.possibleSuns(present, tally);
    }

    public int odds(int m, int p, int what) {
        if (!isMotion(m) || !isWithin(p, 0, CHANCES) || !isWithin(what, 0, 1)) {
            return BAD;
        }
        int all = power(CHANCES, present.people);
        int good = question.chancesToCarry(present, m, p);
        return cut(what == 0 ? good : all, commonDivisor(good, all));
    }

    public int sway(int m) {
        return isMotion(m) ? question.whoSways(present, m) : BAD;
    }

    public int cool(int p) {
        if (!present.hasPerson(p)) {
            return BAD;
        }
        return question.nearestShade(present, present.personCell[p]);
    }

    public int dark(int c) {
        return present.hasCell(c) ? present.shadesAt(c) : BAD;
    }

    // ---- kinds, images

    public int rate(int kind, int t) {
        return present.hasTree(t) ? kinds.rateAs(kind, present, t) : NO;
    }

    public int keep(int image) {
        if (!isWithin(image, 0, IMAGES - 1)) {
            return BAD;
        }
        images[image].become(present);
        isKept[image] = true;
        return present.day;
    }

    public int back(int image) {
        if (!isWithin(image, 0, IMAGES - 1)) {
            return BAD;
        }
        if (!isKept[image]) {
            return STATE;
        }
        present.become(images[image]);
        past.lose();
        return present.day;
    }

    public int count(int what) {
        switch (what) {
            case 0:
                return present.wide;
            case 1:
                return present.high;
            case 2:
                return present.people;
            case 3:
                return tally.size;
            case 4:
                return text.length;
            default:
                return BAD;
        }
    }

    public long trace() {
        return kinds.traced;
    }

    // ---- numbers

    private static boolean isWithin(int n, int least, int most) {
        return n >= least && n <= most;
    }

    private static boolean isMotion(int m) {
        return isWithin(m, 0, MOTIONS - 1);
    }

    private static int asNumber(boolean is) {
        return is ? 1 : 0;
    }

    private static boolean hasBit(int bits, int n) {
        return (bits >> n & 1) == 1;
    }

    /** A division that is cut; by nothing it is 0, as the document has it for shares. */
    private static int cut(int n, int by) {
        return by > 0 ? n / by : 0;
    }

    private static int power(int base, int n) {
        int product = 1;
        for (int i = 0; i < n; i++) {
            product *= base;
        }
        return product;
    }

    private static int commonDivisor(int a, int b) {
        int upper = a;
        int lower = b;
        // Euclid's steps on two ints are fewer than 64.
        for (int i = 0; i < 64 && upper > 0; i++) {
            int rest = lower % upper;
            lower = upper;
            upper = rest;
        }
        return lower;
    }

    /** All that an image keeps, with the land that it is on. */
    private static final class Commune {
        int wide;
        int high;
        int trees;
        int people;
        int sunlight;
        int day;
        boolean isWinter;
        // There is room for one tree more than may stand: plant() asks of a sixth.
        final int[] treeCell = new int[MOST_TREES + 1];
        final int[] treeHeight = new int[MOST_TREES + 1];
        final int[] treeWants = new int[MOST_TREES + 1];
        final boolean[] treeEvergreen = new boolean[MOST_TREES + 1];
        final boolean[] treeFelled = new boolean[MOST_TREES + 1];
        final int[] personCell = new int[MOST_PEOPLE];
        final int[] personWeight = new int[MOST_PEOPLE];

        Commune() {
            startAnew();
        }

        void startAnew() {
            wide = 3;
            high = 3;
            trees = 0;
            people = 0;
            sunlight = 3;
            day = 0;
            isWinter = false;
        }

        void become(Commune other) {
            wide = other.wide;
            high = other.high;
            trees = other.trees;
            people = other.people;
            sunlight = other.sunlight;
            day = other.day;
            isWinter = other.isWinter;
            for (int t = 0; t <= MOST_TREES; t++) {
                treeCell[t] = other.treeCell[t];
                treeHeight[t] = other.treeHeight[t];
                treeWants[t] = other.treeWants[t];
                treeEvergreen[t] = other.treeEvergreen[t];
                treeFelled[t] = other.treeFelled[t];
            }
            for (int p = 0; p < MOST_PEOPLE; p++) {
                personCell[p] = other.personCell[p];
                personWeight[p] = other.personWeight[p];
            }
        }

        int cells() {
            return wide * high;
        }

        boolean hasCell(int cell) {
            return isWithin(cell, 0, cells() - 1);
        }

        boolean hasTree(int t) {
            return isWithin(t, 0, trees - 1);
        }

        boolean hasPerson(int p) {
            return isWithin(p, 0, people - 1);
        }

        boolean hasTreeAt(int cell) {
            for (int t = 0; t < trees; t++) {
                if (treeCell[t] == cell) {
                    return true;
                }
            }
            return false;
        }

        void addTree(int cell, int height, boolean isEvergreen, int wants) {
            if (trees > MOST_TREES) {
                return;
            }
            treeCell[trees] = cell;
            treeHeight[trees] = height;
            treeWants[trees] = wants;
            treeEvergreen[trees] = isEvergreen;
            treeFelled[trees] = false;
            trees++;
        }

        void addPerson(int cell, int weight) {
            if (people >= MOST_PEOPLE) {
                return;
            }
            personCell[people] = cell;
            personWeight[people] = weight;
            people++;
        }

        void lower(int t, int n) {
            treeHeight[t] = Math.max(treeHeight[t] - n, 0);
        }

        void growAll() {
            for (int t = 0; t < trees; t++) {
                if (!treeFelled[t]) {
                    treeHeight[t] = Math.min(treeHeight[t] + 1, MOST_HEIGHT);
                }
            }
        }

        int rowOf(int cell) {
            return wide > 0 ? cell / wide : 0;
        }

        int columnOf(int cell) {
            return wide > 0 ? cell % wide : 0;
        }

        int steps(int from, int to) {
            return Math.abs(rowOf(from) - rowOf(to)) + Math.abs(columnOf(from) - columnOf(to));
        }

        /** The cell that is next, up (0), right (1), down (2), left (3); NONE off the land. */
        int neighbour(int cell, int way) {
            int row = rowOf(cell);
            int column = columnOf(cell);
            switch (way) {
                case 0:
                    return row > 0 ? cell - wide : NONE;
                case 1:
                    return column < wide - 1 ? cell + 1 : NONE;
                case 2:
                    return row < high - 1 ? cell + wide : NONE;
                case 3:
                    return column > 0 ? cell - 1 : NONE;
                default:
                    return NONE;
            }
        }

        boolean isShading(int t, int cell) {
            if (treeHeight[t] == 0 || (isWinter && !treeEvergreen[t]) || wide <= 0 || sunlight <= 0) {
                return false;
            }
            // Cells go row by row: due north are those that whole rows lie between.
            int ahead = treeCell[t] - cell;
            return ahead >= 0 && ahead % wide == 0 && ahead / wide <= treeHeight[t] / sunlight;
        }

        int shadeOf(int t) {
            int bits = 0;
            for (int cell = 0; cell < cells(); cell++) {
                if (isShading(t, cell)) {
                    bits |= 1 << cell;
                }
            }
            return bits;
        }

        int shadesAt(int cell) {
            int n = 0;
            for (int t = 0; t < trees; t++) {
                n += asNumber(isShading(t, cell));
            }
            return n;
        }

        /** The tree that whoever is at a cell is under, or NONE. */
        int treeOver(int cell) {
            int over = NONE;
            int height = 0;
            for (int t = 0; t < trees; t++) {
                if (treeHeight[t] > height && isShading(t, cell)) {
                    over = t;
                    height = treeHeight[t];
                }
            }
            return over;
        }

        /** What whoever is at a cell says of a motion: 1 for it, -1 against it, 0 nothing. */
        int voiceAt(int cell, int m) {
            int t = treeOver(cell);
            if (!hasTree(t)) {
                return 0;
            }
            return hasBit(treeWants[t], m) ? 1 : -1;
        }

        int weightBehind(int m, int voice) {
            int sum = 0;
            for (int p = 0; p < people; p++) {
                if (voiceAt(personCell[p], m) == voice) {
                    sum += personWeight[p];
                }
            }
            return sum;
        }

        /** What a person adds to the weight for a motion less the weight against it. */
        int voteOf(int p, int m) {
            return voiceAt(personCell[p], m) * personWeight[p];
        }

        /** Whether it is carried by those alone who are in columns from the first to the last. */
        boolean isCarriedWithin(int m, int first, int last) {
            int sum = 0;
            for (int p = 0; p < people; p++) {
                if (isWithin(columnOf(personCell[p]), first, last)) {
                    sum += voteOf(p, m);
                }
            }
            return sum > 0;
        }

        boolean isCarried(int m) {
            return weightBehind(m, 1) > weightBehind(m, -1);
        }

        int weightUnder(int t) {
            int sum = 0;
            for (int p = 0; p < people; p++) {
                if (treeOver(personCell[p]) == t) {
                    sum += personWeight[p];
                }
            }
            return sum;
        }

        int weightUnderTrees() {
            int sum = 0;
            for (int t = 0; t < trees; t++) {
                sum += weightUnder(t);
            }
            return sum;
        }
    }

    /** The text, and how it tells a commune, token by token. */
    private static final class Text {
        private final char[] letters = new char[MOST_LETTERS];
        int length;
        private int place;
        private boolean isSunTold;
        // Where the token begins that was read last: the fault, if it can't stand there.
        private int tokenPlace;
        private int number;

        boolean add(int letter) {
            if (length >= MOST_LETTERS) {
                return false;
            }
            letters[length] = (char) letter;
            length++;
            return true;
        }

        int empty() {
            int had = length;
            length = 0;
            return had;
        }

        /** How many items it told, or -10 less the place of what is at fault. */
        int tell(Commune told) {
            told.startAnew();
            place = 0;
            isSunTold = false;
            // An item has letters of its own, so there are never more items than letters.
            for (int items = 0; items <= MOST_LETTERS; items++) {
                skipBlanks();
                if (place >= length) {
                    return items;
                }
                if (!tellItem(told, items == 0) || !readSign(';')) {
                    break;
                }
            }
            return FIRST_FAULT - tokenPlace;
        }

        private boolean tellItem(Commune told, boolean isFirst) {
            if (readSign('g')) {
                return isFirst && tellLand(told);
            }
            if (readSign('t')) {
                return told.trees < MOST_TREES && tellTree(told);
            }
            if (readSign('p')) {
                return told.people < MOST_PEOPLE && tellPerson(told);
            }
            return readSign('s') && !isSunTold && tellSun(told);
        }

        private boolean tellLand(Commune told) {
            if (!readNumber(LEAST_SIDE, MOST_WIDE)) {
                return false;
            }
            told.wide = number;
            if (!readNumber(LEAST_SIDE, MOST_HIGH)) {
                return false;
            }
            told.high = number;
            return true;
        }

        private boolean tellTree(Commune told) {
            if (!readNumber(0, told.cells() - 1) || told.hasTreeAt(number)) {
                return false;
            }
            int cell = number;
            if (!readNumber(0, MOST_HEIGHT)) {
                return false;
            }
            int height = number;
            if (!readNumber(0, 1)) {
                return false;
            }
            boolean isEvergreen = number == 1;
            if (!readNumber(0, ALL_WANTS)) {
                return false;
            }
            told.addTree(cell, height, isEvergreen, number);
            return true;
        }

        private boolean tellPerson(Commune told) {
            if (!readNumber(0, told.cells() - 1)) {
                return false;
            }
            int cell = number;
            if (!readNumber(1, MOST_WEIGHT)) {
                return false;
            }
            told.addPerson(cell, number);
            return true;
        }

        private boolean tellSun(Commune told) {
            if (!readNumber(1, MOST_SUN)) {
                return false;
            }
            told.sunlight = number;
            isSunTold = true;
            return true;
        }

        private void skipBlanks() {
            while (place < length && letters[place] == ' ') {
                place++;
            }
            tokenPlace = place;
        }

        private boolean readSign(char sign) {
            skipBlanks();
            if (place >= length || letters[place] != sign) {
                return false;
            }
            place++;
            return true;
        }

        private boolean readNumber(int least, int most) {
            skipBlanks();
            number = 0;
            while (place < length && letters[place] >= '0' && letters[place] <= '9') {
                // Two hundred digits must not wrap around to a number that may stand.
                if (number <= most) {
                    number = number * 10 + letters[place] - '0';
                }
                place++;
            }
            int digits = place - tokenPlace;
            boolean isLedByZero = digits > 1 && letters[tokenPlace] == '0';
            return digits > 0 && !isLedByZero && isWithin(number, least, most);
        }
    }

    /** What was before the latest changes: a ring, so that the oldest is lost to the newest. */
    private static final class Past {
        private final Commune[] known = new Commune[MOST_UNDONE];
        private int next;
        int size;

        Past() {
            for (int i = 0; i < MOST_UNDONE; i++) {
                known[i] = new Commune();
            }
        }

        void remember(Commune present) {
            known[next].become(present);
            next = (next + 1) % MOST_UNDONE;
            size = Math.min(size + 1, MOST_UNDONE);
        }

        void restore(Commune present) {
            if (size == 0) {
                return;
            }
            next = (next + MOST_UNDONE - 1) % MOST_UNDONE;
            size--;
            present.become(known[next]);
        }

        void lose() {
            size = 0;
        }
    }

    /** What was counted for motions, all of it at one sun that is not known. */
    private static final class Tally {
        private final int[] motions = new int[MOST_COUNTED];
        private final int[] weights = new int[MOST_COUNTED];
        int size;

        boolean add(int m, int weight) {
            if (size >= MOST_COUNTED) {
                return false;
            }
            motions[size] = m;
            weights[size] = weight;
            size++;
            return true;
        }

        int empty() {
            int had = size;
            size = 0;
            return had;
        }

        boolean isSoIn(Commune commune) {
            for (int i = 0; i < size; i++) {
                if (commune.weightBehind(motions[i], 1) != weights[i]) {
                    return false;
                }
            }
            return true;
        }
    }

    /** What is only asked: whatever it tries, it tries on a commune of its own. */
    private static final class Question {
        private final Commune trial = new Commune();
        // What each person's vote is, if he is not and if he is among those chosen.
        private final int[] voteElse = new int[MOST_PEOPLE];
        private final int[] voteIfChosen = new int[MOST_PEOPLE];

        int fewestMovers(Commune present, int m, int k) {
            for (int p = 0; p < present.people; p++) {
                voteElse[p] = present.voteOf(p, m);
                voteIfChosen[p] = bestVote(present, p, m, k);
            }
            int best = NONE;
            int fewest = MOST_PEOPLE + 1;
            for (int chosen = 0; chosen < 1 << present.people; chosen++) {
                int n = Integer.bitCount(chosen);
                if (n < fewest && sumOfVotes(present.people, chosen) > 0) {
                    best = chosen;
                    fewest = n;
                }
            }
            return best;
        }

        private static int bestVote(Commune present, int p, int m, int k) {
            int best = -1;
            for (int cell = 0; cell < present.cells(); cell++) {
                if (present.steps(present.personCell[p], cell) <= k) {
                    best = Math.max(best, present.voiceAt(cell, m));
                }
            }
            return best * present.personWeight[p];
        }

        private int sumOfVotes(int people, int chosen) {
            int sum = 0;
            for (int p = 0; p < people; p++) {
                sum += hasBit(chosen, p) ? voteIfChosen[p] : voteElse[p];
            }
            return sum;
        }

        int leastPruning(Commune present, int m) {
            if (present.isCarried(m)) {
                return 0;
            }
            for (int n = 1; n <= MOST_HEIGHT; n++) {
                for (int t = 0; t < present.trees; t++) {
                    trial.become(present);
                    trial.lower(t, n);
                    if (trial.isCarried(m)) {
                        return 100 * t + n;
                    }
                }
            }
            return NONE;
        }

        int cellToPlant(Commune present, int m, int n) {
            for (int cell = 0; cell < present.cells(); cell++) {
                if (present.hasTreeAt(cell)) {
                    continue;
                }
                trial.become(present);
                trial.addTree(cell, n, true, 1 << m);
                if (trial.isCarried(m)) {
                    return cell;
                }
            }
            return NONE;
        }

        int carryingSuns(Commune present, int m) {
            trial.become(present);
            int bits = 0;
            for (int s = 1; s <= MOST_SUN; s++) {
                trial.sunlight = s;
                bits |= asNumber(trial.isCarried(m)) << s - 1;
            }
            return bits;
        }

        int possibleSuns(Commune present, Tally tally) {
            trial.become(present);
            int bits = 0;
            for (int s = 1; s <= MOST_SUN; s++) {
                trial.sunlight = s;
                bits |= asNumber(tally.isSoIn(trial)) << s - 1;
            }
            return bits;
        }

        int partingColumn(Commune present, int m) {
            for (int c = 1; c < present.wide; c++) {
                if (present.isCarriedWithin(m, 0, c - 1)
                        && present.isCarriedWithin(m, c, present.wide - 1)) {
                    return c;
                }
            }
            return NONE;
        }

        /** In how many of ten to the power of people chances it is carried. */
        int chancesToCarry(Commune present, int m, int p) {
            for (int i = 0; i < present.people; i++) {
                voteElse[i] = 0;
                voteIfChosen[i] = present.voteOf(i, m);
            }
            int chances = 0;
            for (int come = 0; come < 1 << present.people; come++) {
                if (sumOfVotes(present.people, come) > 0) {
                    int n = Integer.bitCount(come);
                    chances += power(p, n) * power(CHANCES - p, present.people - n);
                }
            }
            return chances;
        }

        int whoSways(Commune present, int m) {
            int sum = present.weightBehind(m, 1) - present.weightBehind(m, -1);
            int bits = 0;
            for (int p = 0; p < present.people; p++) {
                int without = sum - present.voteOf(p, m);
                if ((without > 0) != (sum > 0)) {
                    bits |= 1 << p;
                }
            }
            return bits;
        }

        int nearestShade(Commune present, int from) {
            int nearest = NONE;
            int least = present.cells();
            for (int cell = 0; cell < present.cells(); cell++) {
                int steps = present.steps(from, cell);
                if (steps < least && present.shadesAt(cell) > 0) {
                    nearest = cell;
                    least = steps;
                }
            }
            return nearest;
        }
    }

    /** The rates of trees as if of a kind, and the trace of all kinds that were asked. */
    private static final class Kinds {
        private static final int TREE = 0, OAK = 1, POPLAR = 2, ELDER = 3, WILLOW = 4, STUMP = 5;

        long traced;

        int rateAs(int kind, Commune present, int t) {
            switch (kind) {
                case TREE:
                    return rateTree(present, t);
                case OAK:
                    return rateOak(present, t);
                case POPLAR:
                    return ratePoplar(present, t);
                case ELDER:
                    return rateElder(present, t);
                case WILLOW:
                    return rateWillow(present, t);
                case STUMP:
                    return rateStump(present, t);
                default:
                    return NO;
            }
        }

        private int rateTree(Commune present, int t) {
            traced += 1;
            return present.treeHeight[t];
        }

        private int rateOak(Commune present, int t) {
            traced += 10;
            return rateTree(present, t) + present.weightUnder(t);
        }

        private int ratePoplar(Commune present, int t) {
            traced += 100;
            return rateTree(present, t) - present.treeCell[t];
        }

        private int rateElder(Commune present, int t) {
            traced += 1000;
            return 2 * rateOak(present, t);
        }

        private int rateWillow(Commune present, int t) {
            traced += 10000;
            return ratePoplar(present, t) + t;
        }

        private int rateStump(Commune present, int t) {
            traced += 100000;
            return rateTree(present, t) + Integer.bitCount(present.shadeOf(t));
        }
    }
}

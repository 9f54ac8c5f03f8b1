import java.math.BigInteger;
import java.util.ArrayDeque;
import java.util.ArrayList;
import java.util.Arrays;
import java.util.Deque;
import java.util.HashMap;
import java.util.HashSet;
import java.util.List;
import java.util.Map;
import java.util.Set;
import java.util.TreeSet;
import java.util.regex.Matcher;
import java.util.regex.Pattern;

/**
 * A second telling of the document, with nothing of the class in it: worlds that never change, sets of cells,
 * tokens cut by a pattern, walks by steps, chances as great numbers.
 */
final class Model {
    private static final int BAD = -1, STATE = -2, FULL = -3, NONE = -9, NO = -1000000;

    record Tree(int cell, int height, boolean evergreen, int wants, boolean felled) {
        Tree ofHeight(int other) {
            return new Tree(cell, other, evergreen, wants, felled);
        }
    }

    record Person(int cell, int weight) { }

    record Token(int place, String word) { }

    record World(int w, int h, List<Tree> trees, List<Person> people, int sun, boolean winter, int day) {
        World withTrees(List<Tree> other) {
            return new World(w, h, List.copyOf(other), people, sun, winter, day);
        }

        World withPeople(List<Person> other) {
            return new World(w, h, trees, List.copyOf(other), sun, winter, day);
        }

        World withTree(int t, Tree other) {
            List<Tree> copy = new ArrayList<>(trees);
            copy.set(t, other);
            return withTrees(copy);
        }

        World bySun(int other) {
            return new World(w, h, trees, people, other, winter, day);
        }

        World inWinter(boolean is) {
            return new World(w, h, trees, people, sun, is, day);
        }

        World onDay(int other) {
            return new World(w, h, trees, people, sun, winter, other);
        }

        Set<Integer> shade(Tree tree) {
            Set<Integer> cells = new TreeSet<>();
            if (tree.height() > 0 && (tree.evergreen() || !winter)) {
                int cell = tree.cell();
                for (int left = tree.height() / sun; left >= 0 && cell >= 0; left--, cell -= w) {
                    cells.add(cell);
                }
            }
            return cells;
        }

        /** The tree over a cell, or null. */
        Tree over(int cell) {
            return trees.stream().filter(tree -> shade(tree).contains(cell))
                    .reduce((a, b) -> b.height() > a.height() ? b : a).orElse(null);
        }

        int sumFor(int m, List<Person> who) {
            return who.stream().filter(p -> over(p.cell()) != null && (over(p.cell()).wants() & 1 << m) != 0)
                    .mapToInt(Person::weight).sum();
        }

        int sumAgainst(int m, List<Person> who) {
            return who.stream().filter(p -> over(p.cell()) != null && (over(p.cell()).wants() & 1 << m) == 0)
                    .mapToInt(Person::weight).sum();
        }

        boolean carried(int m, List<Person> who) {
            return sumFor(m, who) > sumAgainst(m, who);
        }

        boolean carried(int m) {
            return carried(m, people);
        }

        int go(int cell, int way) {
            int row = cell / w + (way == 0 ? -1 : way == 2 ? 1 : 0);
            int column = cell % w + (way == 3 ? -1 : way == 1 ? 1 : 0);
            return row < 0 || row >= h || column < 0 || column >= w ? -1 : row * w + column;
        }

        /** The steps from a cell to each. */
        int[] walk(int from) {
            int[] steps = new int[w * h];
            Arrays.fill(steps, -1);
            steps[from] = 0;
            Deque<Integer> queue = new ArrayDeque<>(List.of(from));
            while (!queue.isEmpty()) {
                int cell = queue.remove();
                for (int way = 0; way < 4; way++) {
                    int next = go(cell, way);
                    if (next >= 0 && steps[next] < 0) {
                        steps[next] = steps[cell] + 1;
                        queue.add(next);
                    }
                }
            }
            return steps;
        }
    }

    private static World first() {
        return new World(3, 3, List.of(), List.of(), 3, false, 0);
    }

    private final StringBuilder text = new StringBuilder();
    private World world = first();
    private final List<World> past = new ArrayList<>();
    private final List<int[]> tally = new ArrayList<>();
    private final Map<Integer, World> images = new HashMap<>();
    private long traced;

    private boolean noMotion(int m) {
        return m < 0 || m > 2;
    }

    private boolean noTree(int t) {
        return t < 0 || t >= world.trees().size();
    }

    private boolean noPerson(int p) {
        return p < 0 || p >= world.people().size();
    }

    private void become(World next) {
        past.add(world);
        if (past.size() > 10) {
            past.remove(0);
        }
        world = next;
    }

    int type(int letter) {
        if (letter < 0 || letter > 255) {
            return BAD;
        }
        if (text.length() == 200) {
            return FULL;
        }
        text.append((char) letter);
        return text.length();
    }

    int clear() {
        int had = text.length();
        text.setLength(0);
        return had;
    }

    int commune() {
        List<Token> tokens = new ArrayList<>();
        Matcher matcher = Pattern.compile("[0-9]+|[^ ]", Pattern.DOTALL).matcher(text);
        while (matcher.find()) {
            tokens.add(new Token(matcher.start(), matcher.group()));
        }
        tokens.add(new Token(text.length(), "end"));
        int items = 0;
        int i = 0;
        World told = first();
        Set<String> seen = new HashSet<>();
        while (!tokens.get(i).word().equals("end")) {
            String word = tokens.get(i).word();
            boolean may = switch (word) {
                case "g" -> items == 0;
                case "t" -> told.trees().size() < 5;
                case "p" -> told.people().size() < 7;
                case "s" -> !seen.contains("s");
                default -> false;
            };
            if (!may) {
                return -10 - tokens.get(i).place();
            }
            seen.add(word);
            int parts = word.equals("t") ? 4 : word.equals("s") ? 1 : 2;
            int[] numbers = new int[parts];
            for (int part = 0; part < parts; part++) {
                i++;
                if (!tokens.get(i).word().matches("0|[1-9]|1[0-9]|20")) {
                    return -10 - tokens.get(i).place();
                }
                numbers[part] = Integer.parseInt(tokens.get(i).word());
                if (!mayStand(told, word, part, numbers[part])) {
                    return -10 - tokens.get(i).place();
                }
            }
            i++;
            if (!tokens.get(i).word().equals(";")) {
                return -10 - tokens.get(i).place();
            }
            i++;
            items++;
            told = withItem(told, word, numbers);
        }
        text.setLength(0);
        world = told;
        past.clear();
        tally.clear();
        images.clear();
        return items;
    }

    private static boolean mayStand(World told, String word, int part, int n) {
        int cells = told.w() * told.h();
        return switch (word + part) {
            case "g0" -> n >= 2 && n <= 5;
            case "g1" -> n >= 2 && n <= 4;
            case "t0" -> n < cells && told.trees().stream().noneMatch(tree -> tree.cell() == n);
            case "t2" -> n <= 1;
            case "t3" -> n <= 7;
            case "p0" -> n < cells;
            case "p1" -> n >= 1 && n <= 4;
            case "s0" -> n >= 1 && n <= 9;
            default -> true;
        };
    }

    private static World withItem(World told, String word, int[] n) {
        switch (word) {
            case "g":
                return new World(n[0], n[1], told.trees(), told.people(), told.sun(), false, 0);
            case "t": {
                List<Tree> trees = new ArrayList<>(told.trees());
                trees.add(new Tree(n[0], n[1], n[2] == 1, n[3], false));
                return told.withTrees(trees);
            }
            case "p": {
                List<Person> people = new ArrayList<>(told.people());
                people.add(new Person(n[0], n[1]));
                return told.withPeople(people);
            }
            default:
                return told.bySun(n[0]);
        }
    }

    int tree(int t, int what) {
        if (noTree(t) || what < 0 || what > 5) {
            return BAD;
        }
        Tree tree = world.trees().get(t);
        return new int[] {tree.cell(), tree.height(), tree.evergreen() ? 1 : 0, tree.wants(),
            world.shade(tree).stream().mapToInt(cell -> 1 << cell).sum(), tree.felled() ? 1 : 0}[what];
    }

    int person(int p, int what) {
        if (noPerson(p) || what < 0 || what > 2) {
            return BAD;
        }
        Person person = world.people().get(p);
        Tree over = world.over(person.cell());
        return new int[] {person.cell(), person.weight(), over == null ? NONE : world.trees().indexOf(over)}[what];
    }

    int motion(int m, int what) {
        if (noMotion(m) || what < 0 || what > 2) {
            return BAD;
        }
        List<Person> all = world.people();
        return what == 0 ? world.sumFor(m, all) : what == 1 ? world.sumAgainst(m, all) : world.carried(m) ? 1 : 0;
    }

    int now(int what) {
        if (what < 0 || what > 4) {
            return BAD;
        }
        return new int[] {world.day(), world.sun(), world.winter() ? 1 : 0, world.trees().size(), past.size()}[what];
    }

    int moves(int p, int way) {
        if (noPerson(p) || way < 0 || way > 3) {
            return BAD;
        }
        int cell = world.go(world.people().get(p).cell(), way);
        if (cell < 0) {
            return STATE;
        }
        List<Person> people = new ArrayList<>(world.people());
        people.set(p, new Person(cell, people.get(p).weight()));
        become(world.withPeople(people));
        return cell;
    }

    int prunes(int t, int n) {
        if (noTree(t) || n < 1 || n > 20) {
            return BAD;
        }
        Tree tree = world.trees().get(t);
        int height = tree.height() > n ? tree.height() - n : 0;
        become(world.withTree(t, tree.ofHeight(height)));
        return height;
    }

    int grows() {
        if (world.day() == 999) {
            return STATE;
        }
        List<Tree> trees = world.trees().stream()
                .map(tree -> tree.felled() || tree.height() == 20 ? tree : tree.ofHeight(tree.height() + 1)).toList();
        become(world.withTrees(trees).onDay(world.day() + 1));
        return world.day();
    }

    int plants(int c, int wants) {
        if (c < 0 || c >= world.w() * world.h() || wants < 0 || wants > 7) {
            return BAD;
        }
        if (world.trees().stream().anyMatch(tree -> tree.cell() == c)) {
            return STATE;
        }
        if (world.trees().size() == 5) {
            return FULL;
        }
        List<Tree> trees = new ArrayList<>(world.trees());
        trees.add(new Tree(c, 1, false, wants, false));
        become(world.withTrees(trees));
        return trees.size() - 1;
    }

    int fells(int t) {
        if (noTree(t)) {
            return BAD;
        }
        Tree tree = world.trees().get(t);
        if (tree.felled()) {
            return STATE;
        }
        become(world.withTree(t, new Tree(tree.cell(), 0, tree.evergreen(), tree.wants(), true)));
        return tree.height();
    }

    int winter(int is) {
        if (is != 0 && is != 1) {
            return BAD;
        }
        int was = world.winter() ? 1 : 0;
        become(world.inWinter(is == 1));
        return was;
    }

    int sun(int s) {
        if (s < 1 || s > 9) {
            return BAD;
        }
        int was = world.sun();
        become(world.bySun(s));
        return was;
    }

    int undo() {
        if (past.isEmpty()) {
            return STATE;
        }
        world = past.remove(past.size() - 1);
        return past.size();
    }

    /** What a person at a cell is worth for a motion: 1, 0 or -1. */
    private int worth(int m, int cell) {
        Tree over = world.over(cell);
        return over == null ? 0 : (over.wants() & 1 << m) != 0 ? 1 : -1;
    }

    int movers(int m, int k) {
        if (noMotion(m) || k < 0 || k > 9) {
            return BAD;
        }
        int n = world.people().size();
        for (int size = 0; size <= n; size++) {
            for (int who = 0; who < 1 << n; who++) {
                if (Integer.bitCount(who) == size && canCarry(m, k, who)) {
                    return who;
                }
            }
        }
        return NONE;
    }

    /** By all sums that the votes can have, one person behind the other. */
    private boolean canCarry(int m, int k, int who) {
        Set<Integer> sums = new HashSet<>(Set.of(0));
        for (int p = 0; p < world.people().size(); p++) {
            Person person = world.people().get(p);
            int[] steps = world.walk(person.cell());
            Set<Integer> next = new HashSet<>();
            for (int cell = 0; cell < steps.length; cell++) {
                if (steps[cell] == 0 || (steps[cell] <= k && (who & 1 << p) != 0)) {
                    int vote = worth(m, cell) * person.weight();
                    sums.forEach(sum -> next.add(sum + vote));
                }
            }
            sums = next;
        }
        return sums.stream().anyMatch(sum -> sum > 0);
    }

    int prune(int m) {
        if (noMotion(m)) {
            return BAD;
        }
        if (world.carried(m)) {
            return 0;
        }
        int best = NONE;
        int least = 21;
        for (int t = 0; t < world.trees().size(); t++) {
            Tree tree = world.trees().get(t);
            for (int n = 1; n <= tree.height() && n < least; n++) {
                if (world.withTree(t, tree.ofHeight(tree.height() - n)).carried(m)) {
                    best = 100 * t + n;
                    least = n;
                }
            }
        }
        return best;
    }

    int plant(int m, int n) {
        if (noMotion(m) || n < 1 || n > 20) {
            return BAD;
        }
        for (int c = 0; c < world.w() * world.h(); c++) {
            int cell = c;
            if (world.trees().stream().noneMatch(tree -> tree.cell() == cell)) {
                List<Tree> trees = new ArrayList<>(world.trees());
                trees.add(new Tree(c, n, true, 1 << m, false));
                if (world.withTrees(trees).carried(m)) {
                    return c;
                }
            }
        }
        return NONE;
    }

    int suns(int m) {
        if (noMotion(m)) {
            return BAD;
        }
        int bits = 0;
        for (int s = 1; s <= 9; s++) {
            bits += world.bySun(s).carried(m) ? 1 << s - 1 : 0;
        }
        return bits;
    }

    int hedge(int m) {
        if (noMotion(m)) {
            return BAD;
        }
        for (int c = 1; c < world.w(); c++) {
            int at = c;
            List<Person> west = world.people().stream().filter(p -> p.cell() % world.w() < at).toList();
            List<Person> east = world.people().stream().filter(p -> p.cell() % world.w() >= at).toList();
            if (world.carried(m, west) && world.carried(m, east)) {
                return c;
            }
        }
        return NONE;
    }

    private int weightUnder(Tree tree) {
        return world.people().stream().filter(p -> world.over(p.cell()) == tree).mapToInt(Person::weight).sum();
    }

    int share(int t) {
        if (noTree(t)) {
            return BAD;
        }
        int all = world.people().stream().filter(p -> world.over(p.cell()) != null).mapToInt(Person::weight).sum();
        return all == 0 ? 0 : 100 * weightUnder(world.trees().get(t)) / all;
    }

    int counted(int m, int v) {
        if (noMotion(m) || v < 0 || v > 28) {
            return BAD;
        }
        if (tally.size() == 5) {
            return FULL;
        }
        tally.add(new int[] {m, v});
        return tally.size();
    }

    int forget() {
        int had = tally.size();
        tally.clear();
        return had;
    }

    int mayBe() {
        int bits = 0;
        for (int s = 1; s <= 9; s++) {
            World other = world.bySun(s);
            if (tally.stream().allMatch(row -> other.sumFor(row[0], other.people()) == row[1])) {
                bits += 1 << s - 1;
            }
        }
        return bits;
    }

    int odds(int m, int p, int what) {
        if (noMotion(m) || p < 0 || p > 10 || what < 0 || what > 1) {
            return BAD;
        }
        // Chances by sums of votes, one person behind the other.
        Map<Integer, BigInteger> chances = new HashMap<>(Map.of(0, BigInteger.ONE));
        for (Person person : world.people()) {
            Map<Integer, BigInteger> next = new HashMap<>();
            int vote = worth(m, person.cell()) * person.weight();
            chances.forEach((sum, chance) -> {
                next.merge(sum + vote, chance.multiply(BigInteger.valueOf(p)), BigInteger::add);
                next.merge(sum, chance.multiply(BigInteger.valueOf(10 - p)), BigInteger::add);
            });
            chances = next;
        }
        BigInteger upper = BigInteger.ZERO;
        for (Map.Entry<Integer, BigInteger> entry : chances.entrySet()) {
            upper = entry.getKey() > 0 ? upper.add(entry.getValue()) : upper;
        }
        BigInteger lower = BigInteger.TEN.pow(world.people().size());
        return (what == 0 ? upper : lower).divide(upper.gcd(lower)).intValueExact();
    }

    int sway(int m) {
        if (noMotion(m)) {
            return BAD;
        }
        int bits = 0;
        for (int p = 0; p < world.people().size(); p++) {
            List<Person> others = new ArrayList<>(world.people());
            others.remove(p);
            bits += world.carried(m, others) != world.carried(m) ? 1 << p : 0;
        }
        return bits;
    }

    int cool(int p) {
        if (noPerson(p)) {
            return BAD;
        }
        int[] steps = world.walk(world.people().get(p).cell());
        for (int far = 0; far < steps.length; far++) {
            for (int cell = 0; cell < steps.length; cell++) {
                if (steps[cell] == far && dark(cell) > 0) {
                    return cell;
                }
            }
        }
        return NONE;
    }

    int dark(int c) {
        if (c < 0 || c >= world.w() * world.h()) {
            return BAD;
        }
        return (int) world.trees().stream().filter(tree -> world.shade(tree).contains(c)).count();
    }

    int rate(int kind, int t) {
        if (noTree(t) || kind < 0 || kind > 5) {
            return NO;
        }
        Tree tree = world.trees().get(t);
        int height = tree.height();
        traced += new int[] {1, 11, 101, 1011, 10101, 100001}[kind];
        return new int[] {height, height + weightUnder(tree), height - tree.cell(), 2 * (height + weightUnder(tree)),
            height - tree.cell() + t, height + world.shade(tree).size()}[kind];
    }

    int keep(int image) {
        if (image != 0 && image != 1) {
            return BAD;
        }
        images.put(image, world);
        return world.day();
    }

    int back(int image) {
        if (image != 0 && image != 1) {
            return BAD;
        }
        if (!images.containsKey(image)) {
            return STATE;
        }
        world = images.get(image);
        past.clear();
        return world.day();
    }

    int count(int what) {
        if (what < 0 || what > 4) {
            return BAD;
        }
        return new int[] {world.w(), world.h(), world.people().size(), tally.size(), text.length()}[what];
    }

    long trace() {
        return traced;
    }
}

import java.io.IOException;
import java.lang.reflect.Constructor;
import java.lang.reflect.Field;
import java.lang.reflect.Method;
import java.lang.reflect.Modifier;
import java.nio.file.Files;
import java.nio.file.Path;
import java.util.ArrayList;
import java.util.Arrays;
import java.util.HashSet;
import java.util.List;
import java.util.Map;
import java.util.Set;
import java.util.TreeMap;
import java.util.TreeSet;
import java.util.regex.Matcher;
import java.util.regex.Pattern;

/** The face of the class, and the rules of ../shared/LANGUAGE.md that can be seen in its members and its text. */
public final class LanguageTest {
    private static final String PROGRAM = "src/main/java/ShadeVotes.java";
    private static final String FACE = """
            int type(int)
            int clear()
            int commune()
            int tree(int, int)
            int person(int, int)
            int motion(int, int)
            int now(int)
            int moves(int, int)
            int prunes(int, int)
            int grows()
            int plants(int, int)
            int fells(int)
            int winter(int)
            int sun(int)
            int undo()
            int movers(int, int)
            int prune(int)
            int plant(int, int)
            int suns(int)
            int hedge(int)
            int share(int)
            int counted(int, int)
            int forget()
            int mayBe()
            int odds(int, int, int)
            int sway(int)
            int cool(int)
            int dark(int)
            int rate(int, int)
            int keep(int)
            int back(int)
            int count(int)
            long trace()
            """;
    private static final Checks C = new Checks();

    public static void main(String[] args) throws IOException {
        face();
        constants();
        List<Class<?>> classes = new ArrayList<>(List.of(ShadeVotes.class));
        classes.addAll(Arrays.asList(ShadeVotes.class.getDeclaredClasses()));
        C.holds("at most twelve classes", classes.size() <= 12);
        for (Class<?> each : classes) {
            members(each);
        }
        String code = withoutComments(Files.readString(Path.of(PROGRAM)));
        words(code);
        methodLengths(code);
        whereObjectsAreMade(code);
        callDepths(code);
        C.end("LanguageTest");
    }

    private static void face() {
        C.holds("public and final", Modifier.isPublic(ShadeVotes.class.getModifiers())
                && Modifier.isFinal(ShadeVotes.class.getModifiers()));
        Set<String> seen = new TreeSet<>();
        Set<String> names = new HashSet<>();
        for (Method method : ShadeVotes.class.getDeclaredMethods()) {
            if (!Modifier.isPrivate(method.getModifiers())) {
                C.holds("public and not static: " + method, method.getModifiers() == Modifier.PUBLIC);
                seen.add(written(method));
                names.add(method.getName());
            }
        }
        C.holds("the methods of the face: " + seen, seen.equals(new TreeSet<>(FACE.lines().toList())));
        for (Class<?> each : ShadeVotes.class.getDeclaredClasses()) {
            for (Method method : each.getDeclaredMethods()) {
                C.holds("not a name of the face: " + method, !names.contains(method.getName()));
            }
        }
        for (Method method : ShadeVotes.class.getDeclaredMethods()) {
            C.holds("not a name of the face: " + method,
                    !Modifier.isPrivate(method.getModifiers()) || !names.contains(method.getName()));
        }
        Constructor<?>[] constructors = ShadeVotes.class.getDeclaredConstructors();
        C.holds("one public constructor", constructors.length == 1
                && Modifier.isPublic(constructors[0].getModifiers()) && constructors[0].getParameterCount() == 0);
    }

    private static String written(Method method) {
        List<String> types = Arrays.stream(method.getParameterTypes()).map(Class::getName).toList();
        return method.getReturnType().getName() + " " + method.getName() + "(" + String.join(", ", types) + ")";
    }

    private static void constants() {
        C.due("BAD", ShadeVotes.BAD, -1);
        C.due("STATE", ShadeVotes.STATE, -2);
        C.due("FULL", ShadeVotes.FULL, -3);
        C.due("NONE", ShadeVotes.NONE, -9);
        C.due("NO", ShadeVotes.NO, -1000000);
        Set<String> seen = new TreeSet<>();
        for (Field field : ShadeVotes.class.getDeclaredFields()) {
            if (!Modifier.isPrivate(field.getModifiers())) {
                seen.add(field.getType().getName() + " " + field.getName());
                C.holds("public, static and final: " + field,
                        field.getModifiers() == (Modifier.PUBLIC | Modifier.STATIC | Modifier.FINAL));
            }
        }
        C.holds("the constants of the face: " + seen,
                seen.equals(Set.of("int BAD", "int STATE", "int FULL", "int NONE", "int NO")));
    }

    private static void members(Class<?> each) {
        C.holds("static: " + each, each == ShadeVotes.class
                || (Modifier.isStatic(each.getModifiers()) && !Modifier.isPublic(each.getModifiers())));
        int fields = 0;
        for (Field field : each.getDeclaredFields()) {
            boolean isStatic = Modifier.isStatic(field.getModifiers());
            C.holds("final: " + field, !isStatic || Modifier.isFinal(field.getModifiers()));
            fields += isStatic ? 0 : 1;
        }
        C.holds("at most twenty fields: " + each, fields <= 20);
        for (Method method : each.getDeclaredMethods()) {
            C.holds("at most seven parameters: " + method, method.getParameterCount() <= 7);
        }
    }

    private static String withoutComments(String source) {
        return source.replaceAll("(?s)/\\*.*?\\*/", "").replaceAll("//[^\n]*", "");
    }

    private static void words(String code) {
        for (String word : new String[] {"throw", "throws", "try", "catch", "synchronized", "assert", "import",
            "package", "native", "volatile", "transient", "protected", "instanceof", "System", "Object"}) {
            C.holds("no " + word, !Pattern.compile("\\b" + word + "\\b").matcher(code).find());
        }
        C.holds("no lambda", !code.contains("->"));
        C.holds("no method reference", !code.contains("::"));
        C.holds("signs 1 to 127 alone", code.chars().allMatch(sign -> sign >= 1 && sign <= 127));
        Matcher calls = Pattern.compile("\\b([A-Z]\\w*)\\.(\\w+)").matcher(code);
        Set<String> listed = Set.of("Math.max", "Math.min", "Math.abs", "Integer.bitCount");
        while (calls.find()) {
            C.holds("in the list of the library: " + calls.group(), listed.contains(calls.group()));
        }
        Matcher divisions = Pattern.compile("[^/](/|%)=?\\s*(\\w+)").matcher(code);
        Set<String> tested = Set.of("by", "wide", "sunlight", "upper", "MOST_UNDONE");
        while (divisions.find()) {
            C.holds("a divisor that is known not to be 0: " + divisions.group(2), tested.contains(divisions.group(2)));
        }
    }

    /** Methods stand at four blanks in the class, at eight in those inside it. */
    private static void methodLengths(String code) {
        String[] lines = code.split("\n", -1);
        for (int i = 0; i < lines.length; i++) {
            if (lines[i].matches("( {4}| {8})[a-z][^;=]*\\) \\{")) {
                String end = lines[i].replaceAll("\\S.*", "") + "}";
                int last = i;
                while (last < lines.length && !lines[last].equals(end)) {
                    last++;
                }
                C.holds("at most sixty lines: " + lines[i], last - i < 60);
            }
        }
    }

    /** All calls of a run live in one room: rows are made with the object, and no call makes one more. */
    private static void whereObjectsAreMade(String code) {
        String method = "";
        for (String line : code.split("\n", -1)) {
            if (line.matches("( {4}| {8})[a-zA-Z][^;=]*\\) \\{")) {
                method = line.strip();
            } else if (line.matches("( {4}| {8})\\}")) {
                method = "";
            }
            boolean isMaking = Pattern.compile("\\bnew\\b|\\bclone\\(|\\.values\\(").matcher(line).find();
            C.holds("nothing is made but by constructors: " + line.strip(),
                    !isMaking || method.isEmpty() || method.matches("(public )?[A-Z]\\w*\\(\\) \\{"));
        }
    }

    /** By names alone: every method of the program that a body names counts as called. */
    private static void callDepths(String code) {
        Map<String, Set<String>> called = new TreeMap<>();
        Matcher heads = Pattern.compile("(?m)^( {4}| {8})[a-z][^;=\n]*?(\\w+)\\([^;=\n]*\\) \\{").matcher(code);
        while (heads.find()) {
            int end = code.indexOf("\n" + heads.group(1) + "}", heads.end());
            Matcher names = Pattern.compile("\\b([a-z]\\w*)\\(").matcher(code.substring(heads.end(), end));
            Set<String> of = called.computeIfAbsent(heads.group(2), name -> new TreeSet<>());
            while (names.find()) {
                of.add(names.group(1));
            }
        }
        C.holds("methods are found", called.size() > 60);
        for (String name : called.keySet()) {
            C.holds("calls go at most eight deep: " + name, depth(called, name, 0) <= 8);
        }
    }

    private static int depth(Map<String, Set<String>> called, String name, int above) {
        if (above > 12) {
            return 100;
        }
        int deepest = 0;
        for (String next : called.getOrDefault(name, Set.of())) {
            deepest = Math.max(deepest, depth(called, next, above + 1));
        }
        return 1 + deepest;
    }
}

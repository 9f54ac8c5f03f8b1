import java.io.IOException;
import java.net.URL;
import java.net.URLClassLoader;
import java.nio.file.Files;
import java.nio.file.Path;
import java.util.ArrayList;
import java.util.List;
import java.util.Set;
import java.util.TreeSet;
import java.util.regex.Matcher;
import java.util.regex.Pattern;
import java.util.stream.Stream;
import javax.tools.JavaCompiler;
import javax.tools.ToolProvider;

/**
 * What README.md shows: its blocks of Java are compiled as they stand there, one behind the other, and each call
 * answers what the note beside it says. Its table of the calls is held against the face, its list of tests against
 * those that there are.
 */
public final class ReadmeTest {
    private static final Path README = Path.of("README.md");
    private static final Path TESTS = Path.of("src/test/java");
    private static final Pattern BLOCK = Pattern.compile("(?ms)^```java\n(.*?)^```$");
    private static final String ANSWER = "BAD|STATE|FULL|NONE|NO|-?\\d+";
    /** A call, what it answers, and why, if that is said. */
    private static final Pattern SHOWN = Pattern.compile("(x\\.(\\w+)\\(.*?\\)); +// (" + ANSWER + ")(: \\S.*)?");
    private static final Pattern MADE = Pattern.compile("ShadeVotes x = new ShadeVotes\\(\\);");
    private static final Pattern TYPED = Pattern.compile("for \\(char letter : \"([^\"]*)\"\\.toCharArray\\(\\)\\) \\{");
    private static final Pattern ROW = Pattern.compile("(?m)^\\| `(\\w+)\\(([^)]*)\\)` \\| [^|]+ \\| ([^|]*)\\|$");
    private static final Checks C = new Checks();

    private final List<String> calls = new ArrayList<>();
    private final List<Long> due = new ArrayList<>();
    private final Set<String> shown = new TreeSet<>();
    private final Set<String> answered = new TreeSet<>();
    private final StringBuilder code = new StringBuilder();
    private int used;

    public static void main(String[] args) throws IOException, ReflectiveOperationException {
        String readme = Files.readString(README);
        ReadmeTest test = new ReadmeTest();
        test.read(readme);
        test.answersAreDue();
        test.allCallsAreShown();
        tableOfTheCalls(readme);
        testsAreNamed(readme);
        C.end("ReadmeTest");
    }

    private void read(String readme) {
        Matcher blocks = BLOCK.matcher(readme);
        while (blocks.find()) {
            for (String line : blocks.group(1).split("\n")) {
                code.append(inCode(line)).append('\n');
            }
        }
    }

    /** The line as it is compiled: a call that is shown hands over its answer, all else stays as it is. */
    private String inCode(String line) {
        Matcher call = SHOWN.matcher(line);
        if (call.matches()) {
            calls.add(call.group(1));
            due.add(number(call.group(3)));
            shown.add(call.group(2));
            answered.add(call.group(3));
            used++;
            return "answers.add((long) " + call.group(1) + ");";
        }
        Matcher typed = TYPED.matcher(line);
        if (typed.matches()) {
            used += typed.group(1).length();
        } else {
            C.holds("a line of README.md shows an answer: " + line,
                    line.equals("    x.type(letter);") || line.equals("}") || MADE.matcher(line).matches());
        }
        return line;
    }

    private static long number(String answer) {
        return Character.isLetter(answer.charAt(0)) ? Call.named(answer) : Long.parseLong(answer);
    }

    private void answersAreDue() throws IOException, ReflectiveOperationException {
        List<?> answers = run();
        C.due("README.md: calls that answered", answers.size(), calls.size());
        for (int i = 0; i < Math.min(calls.size(), answers.size()); i++) {
            C.due("README.md: " + calls.get(i), (Long) answers.get(i), due.get(i));
        }
    }

    private List<?> run() throws IOException, ReflectiveOperationException {
        Path place = Files.createTempDirectory("readme");
        try {
            Path source = place.resolve("Shown.java");
            Files.writeString(source, "public final class Shown {\npublic static java.util.List<Long> answers() {\n"
                    + "java.util.List<Long> answers = new java.util.ArrayList<>();\n" + code + "return answers;\n}\n}\n");
            JavaCompiler compiler = ToolProvider.getSystemJavaCompiler();
            String classes = System.getProperty("java.class.path");
            if (compiler == null || compiler.run(null, null, null, "-cp", classes, "-d", place.toString(),
                    source.toString()) != 0) {
                C.holds("the calls of README.md can be compiled", false);
                return List.of();
            }
            try (URLClassLoader loader = new URLClassLoader(new URL[] {place.toUri().toURL()})) {
                return (List<?>) loader.loadClass("Shown").getMethod("answers").invoke(null);
            }
        } finally {
            remove(place);
        }
    }

    private static void remove(Path place) throws IOException {
        try (Stream<Path> files = Files.list(place)) {
            for (Path file : files.toList()) {
                Files.delete(file);
            }
        }
        Files.delete(place);
    }

    private void allCallsAreShown() {
        for (Call call : Call.values()) {
            C.holds("README.md shows " + call.called() + "() with an answer", shown.contains(call.called()));
        }
        for (String name : new String[] {"BAD", "STATE", "FULL", "NONE", "NO"}) {
            C.holds("README.md shows a call that answers " + name, answered.contains(name));
        }
        C.holds("README.md shows a fault", due.stream().anyMatch(answer -> answer <= -10 && answer > -210));
        C.holds("README.md uses its object for 512 calls at most: " + used, used <= Eyes.CALLS);
    }

    private static void tableOfTheCalls(String readme) {
        List<String> names = new ArrayList<>();
        Matcher rows = ROW.matcher(readme);
        while (rows.find()) {
            names.add(rows.group(1));
            for (Call call : Call.values()) {
                if (call.called().equals(rows.group(1))) {
                    row(call, rows.group(2), rows.group(3));
                }
            }
        }
        List<String> face = Stream.of(Call.values()).map(Call::called).toList();
        C.holds("the table of README.md has the calls " + face + ", not " + names, names.equals(face));
    }

    private static void row(Call call, String numbers, String instead) {
        C.due("numbers of " + call.called() + "() in README.md", numbers.isEmpty() ? 0 : numbers.split(", ").length,
                call.told.length);
        Set<Long> refusals = new TreeSet<>();
        Matcher names = Pattern.compile("`([A-Z]+)`").matcher(instead);
        while (names.find()) {
            refusals.add(Call.named(names.group(1)));
        }
        C.holds("README.md says what " + call.called() + "() may answer instead: " + instead,
                refusals.equals(call.refusals));
    }

    private static void testsAreNamed(String readme) throws IOException {
        try (Stream<Path> files = Files.list(TESTS)) {
            for (Path file : files.toList()) {
                String name = file.getFileName().toString().replace(".java", "");
                C.holds("README.md names " + name, readme.contains("`" + name + "`"));
            }
        }
        Matcher named = Pattern.compile("`(\\w+Test)`").matcher(readme);
        while (named.find()) {
            C.holds("there is a " + named.group(1), Files.exists(TESTS.resolve(named.group(1) + ".java")));
        }
        for (String needed : new String[] {".ci/run", "../shared/tests", "JDK 17", "`javac`", "`java`", "exit code 1"}) {
            C.holds("README.md says how the tests are run: " + needed, readme.contains(needed));
        }
    }
}

import java.io.IOException;
import java.lang.reflect.InvocationTargetException;
import java.lang.reflect.Method;
import java.net.URL;
import java.net.URLClassLoader;
import java.nio.file.Files;
import java.nio.file.Path;
import java.util.ArrayList;
import java.util.List;
import java.util.Map;
import java.util.Set;
import java.util.TreeMap;
import java.util.TreeSet;
import java.util.function.BiConsumer;
import java.util.function.Supplier;
import java.util.regex.Matcher;
import java.util.regex.Pattern;
import java.util.stream.Stream;
import javax.tools.ToolProvider;

/** What README.md says: its examples, how each call is written and refuses, what it names of the tests. */
public final class ReadmeTest {
    private static final Due DUE = new Due("ReadmeTest");
    private static final Path README = Path.of("README.md");
    private static final Path TESTS = Path.of("src/test/java");
    private static final Pattern BLOCK = Pattern.compile("(?ms)^```(\\w+)\n(.*?)^```$");
    private static final Pattern EXAMPLE = Pattern.compile("(x\\.\\w+\\(.*\\)); +// (-?\\d+|NO)(?:: \\S.*)?");
    private static final Pattern ROW = Pattern.compile("(?m)^\\| `((\\w+)\\(([^)]*)\\))` \\|.*\\| *([^|]*?) *\\|$");
    private static final Pattern REFUSAL = Pattern.compile("\\b(?:NONE|BAD|STATE|FULL|NO)\\b|-\\d+");
    private static final Map<String, Long> REFUSALS = Map.of("NONE", -1L, "BAD", -2L, "STATE", -3L, "FULL", -4L,
        "NO", Long.MIN_VALUE, "-6", -6L, "-10001", -10001L, "-10002", -10002L);
    private static final int[] NUMBERS = {-2, -1, 0, 1, 2, 3, 4, 7, 9, 10, 21, 41, 128};

    private ReadmeTest() {
    }

    public static void main(String[] args) throws Exception {
        String page = Files.readString(README);
        examples(blocks(page, "java"));
        calls(page);
        refusalsTold(page);
        tests(page);
        commands(blocks(page, "sh"));
        DUE.end();
    }

    /** The lines of all blocks of a language, one behind the other. */
    private static List<String> blocks(String page, String language) {
        List<String> lines = new ArrayList<>();
        Matcher matcher = BLOCK.matcher(page);
        while (matcher.find()) {
            if (matcher.group(1).equals(language)) lines.addAll(List.of(matcher.group(2).split("\n")));
        }
        DUE.isTrue("README.md has no example in " + language, !lines.isEmpty());
        return lines;
    }

    // ---- examples

    /** All examples are one program: each call behind which an answer stands is to answer that. */
    private static void examples(List<String> lines) throws Exception {
        StringBuilder program = new StringBuilder("public final class ReadmeExamples {\n");
        program.append("    public static void run(java.util.function.BiConsumer<String, long[]> is) {\n");
        for (String line : lines) {
            Matcher example = EXAMPLE.matcher(line.trim());
            boolean isExample = example.matches();
            DUE.isTrue("no answer stands behind " + line, isExample || !line.contains("x.") || line.trim().equals("x.feed(sign);"));
            program.append(isExample ? checked(example.group(1), example.group(2)) : line).append('\n');
        }
        program.append("    }\n}\n");
        Path directory = Files.createTempDirectory("readme");
        try {
            runExamples(directory, program.toString());
        } finally {
            remove(directory);
        }
    }

    private static String checked(String call, String answer) {
        String due = answer.equals("NO") ? "ThickerBook.NO" : answer + "L";
        return "is.accept(\"" + call.replace("\"", "\\\"") + "\", new long[] {" + call + ", " + due + "});";
    }

    private static void runExamples(Path directory, String program) throws Exception {
        Path source = Files.writeString(directory.resolve("ReadmeExamples.java"), program);
        int compiled = ToolProvider.getSystemJavaCompiler().run(null, null, null, "-cp",
            System.getProperty("java.class.path"), "-d", directory.toString(), source.toString());
        DUE.is("the examples as a program: the compiler", compiled, 0);
        if (compiled != 0) return;
        try (URLClassLoader loader = new URLClassLoader(new URL[] {directory.toUri().toURL()})) {
            Method run = loader.loadClass("ReadmeExamples").getMethod("run", BiConsumer.class);
            BiConsumer<String, long[]> is = (call, two) -> DUE.is(call, two[0], two[1]);
            run.invoke(null, is);
        }
    }

    private static void remove(Path directory) throws IOException {
        try (Stream<Path> files = Files.list(directory)) {
            for (Path file : files.toList()) {
                Files.delete(file);
            }
        }
        Files.delete(directory);
    }

    // ---- the list of all calls

    private static void calls(String page) throws IOException, ReflectiveOperationException {
        Map<String, String> told = new TreeMap<>();
        Map<String, String> refused = new TreeMap<>();
        Matcher row = ROW.matcher(page);
        while (row.find()) {
            told.put(row.group(2), row.group(1));
            refused.put(row.group(2), row.group(4));
        }
        DUE.isTrue("the calls told are " + told.values(), new TreeSet<>(told.values()).equals(face()));
        for (Method method : ThickerBook.class.getDeclaredMethods()) {
            if (refused.containsKey(method.getName())) refusals(method, refused.get(method.getName()));
        }
    }

    /** The calls as the class has them, with the names of what they take. */
    private static Set<String> face() throws IOException {
        Set<String> calls = new TreeSet<>();
        Pattern head = Pattern.compile("(?m)^ {4}public (?:int|long) (\\w+)\\(([^)]*)\\) \\{");
        Matcher matcher = head.matcher(Files.readString(Path.of("src/main/java/ThickerBook.java")));
        while (matcher.find()) {
            calls.add(matcher.group(1) + "(" + matcher.group(2).replaceAll("(?:int|boolean) ", "") + ")");
        }
        return calls;
    }

    /** A call refuses in all ways that its row tells, and in no other, whatever it is given. */
    private static void refusals(Method method, String row) throws ReflectiveOperationException {
        // Any number may be what an ACT answers.
        if (method.getName().equals("act")) return;
        Set<Long> told = new TreeSet<>();
        Matcher refusal = REFUSAL.matcher(row);
        while (refusal.find()) {
            told.add(REFUSALS.get(refusal.group()));
        }
        Set<Long> met = new TreeSet<>();
        List<Supplier<ThickerBook>> objects = List.of(ThickerBook::new, ReadmeTest::full, ReadmeTest::late);
        for (Supplier<ThickerBook> object : objects) {
            for (Object[] given : allGiven(method.getParameterTypes())) {
                long answer = answer(method, object.get(), given);
                if (REFUSALS.containsValue(answer)) met.add(answer);
            }
        }
        DUE.isTrue(method.getName() + " refuses by " + met + ", told is " + told, met.equals(told));
    }

    private static long answer(Method method, ThickerBook x, Object[] given) throws ReflectiveOperationException {
        try {
            return ((Number) method.invoke(x, given)).longValue();
        } catch (InvocationTargetException e) {
            DUE.isTrue(method.getName() + " threw " + e.getCause(), false);
            return 0;
        }
    }

    private static List<Object[]> allGiven(Class<?>[] types) {
        List<Object[]> all = new ArrayList<>();
        all.add(new Object[types.length]);
        for (int i = 0; i < types.length; i++) {
            List<Object[]> longer = new ArrayList<>();
            for (Object[] given : all) {
                for (Object value : values(types[i])) {
                    Object[] next = given.clone();
                    next[i] = value;
                    longer.add(next);
                }
            }
            all = longer;
        }
        return all;
    }

    private static List<Object> values(Class<?> type) {
        List<Object> values = new ArrayList<>();
        if (type == boolean.class) return List.of(false, true);
        for (int n : NUMBERS) {
            values.add(n);
        }
        return values;
    }

    /** Nothing more has room in it; LIKING and TOTAL are never as low as a refusal is. */
    private static ThickerBook full() {
        ThickerBook x = new ThickerBook();
        Calls.books(x, 90, 80, 70, 60, 50, 40, 30);
        Calls.readers(x, 0, 1, 3, 2, 2, 3, 6, 4);
        Calls.lend(x, 0, -1, 2, 3);
        for (int n = 0; n < 5; n++) {
            Calls.town(x, "love 5 b<4");
        }
        Calls.feed(x, "g".repeat(100));
        for (int n = 0; n < 8; n++) {
            x.see(n, n, true);
            x.plan(3, 0);
            x.note(0, n % 7);
        }
        return x;
    }

    /** No DAY can go any more. */
    private static ThickerBook late() {
        ThickerBook x = new ThickerBook();
        for (int day = 0; day < 9999; day = x.pass(Math.min(40, 9999 - day))) {
            if (day < 0) throw new IllegalStateException("pass answered " + day);
        }
        return x;
    }

    private static void refusalsTold(String page) {
        String[] rows = {"| -1 | `NONE` |", "| -2 | `BAD` |", "| -3 | `STATE` |", "| -4 | `FULL` |",
            "| `Long.MIN_VALUE` | `NO` |", "| -10001 |", "| -10002 |", "| -6 |", "| -10 less a place |", "| 0 |"};
        for (String row : rows) {
            DUE.isTrue("README.md has no row " + row, page.contains("\n" + row));
        }
    }

    // ---- what is said of the tests

    private static void tests(String page) throws IOException {
        try (Stream<Path> files = Files.list(TESTS)) {
            for (Path file : files.toList()) {
                String name = file.getFileName().toString().replace(".java", "");
                if (name.endsWith("Test")) DUE.isTrue("README.md does not tell of " + name, page.contains("`" + name + "`"));
            }
        }
        Matcher named = Pattern.compile("`([A-Z][a-zA-Z]+)`").matcher(page.substring(page.indexOf("## Tests")));
        while (named.find()) {
            DUE.isTrue("there is no " + named.group(1), Files.exists(TESTS.resolve(named.group(1) + ".java")));
        }
    }

    /** That what the commands name is there, as it is for who stands beside README.md. */
    private static void commands(List<String> lines) {
        for (String line : lines) {
            String[] words = line.split(" ");
            String last = words[words.length - 1];
            if (words[0].equals("java")) {
                boolean isOurs = Files.exists(TESTS.resolve(last + ".java"));
                DUE.isTrue("no " + last, isOurs || Files.exists(Path.of("../shared/tests", last + ".java")));
                DUE.isTrue("no class path: " + line, words[1].equals("-cp"));
            } else if (words[0].equals("javac")) {
                DUE.isTrue("no such source: " + line, last.endsWith("/*.java") || Files.exists(Path.of(last)));
            } else {
                DUE.isTrue("cannot be run: " + line, words.length == 1 && Files.isExecutable(Path.of(line)));
            }
        }
    }
}

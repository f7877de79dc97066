import java.io.ByteArrayOutputStream;
import java.io.IOException;
import java.io.InputStream;
import java.io.OutputStream;
import java.io.Writer;
import java.lang.reflect.Method;
import java.net.URI;
import java.nio.file.Files;
import java.nio.file.Path;
import java.util.ArrayList;
import java.util.HashMap;
import java.util.List;
import java.util.Map;
import java.util.TreeSet;
import java.util.concurrent.Callable;
import java.util.concurrent.ExecutorService;
import java.util.concurrent.Executors;
import java.util.concurrent.Future;
import java.util.regex.Matcher;
import java.util.regex.Pattern;
import javax.tools.FileObject;
import javax.tools.ForwardingJavaFileManager;
import javax.tools.JavaCompiler;
import javax.tools.JavaFileManager;
import javax.tools.JavaFileObject;
import javax.tools.SimpleJavaFileObject;
import javax.tools.ToolProvider;

/**
 * Breaks the class in one place after the other and runs the boundary cases on each broken one: tells what no case
 * notices, and which case notices nothing. Run by hand, as README.md says; it takes some minutes.
 */
public final class Mutants {
    private static final Path SOURCE = Path.of("src/main/java/ThickerBook.java");
    private static final Path BY_HAND = Path.of("src/test/mutants.txt");
    private static final int PATIENCE_MILLIS = 15_000;
    // What so many cases notice breaks more than one sentence.
    private static final int BROAD = 20;
    // What is written there, and what instead.
    private static final String[][] SWAPS = {
        {" < ", " <= "}, {" <= ", " < "}, {" > ", " >= "}, {" >= ", " > "}, {" == ", " != "}, {" != ", " == "},
        {" && ", " || "}, {" || ", " && "}, {" + ", " - "}, {" - ", " + "}, {" * ", " / "}, {" / ", " * "}, {" % ", " / "},
        {" += ", " -= "}, {" -= ", " += "}, {"++;", "--;"}, {" |= ", " &= "}, {" &= ~", " |= "}, {" & ", " | "}, {" | ", " & "},
        {" ^ ", " | "}, {" >> ", " << "}, {" << ", " >> "}, {"Math.max(", "Math.min("}, {"Math.min(", "Math.max("},
        {"return true;", "return false;"}, {"return false;", "return true;"}, {"!", ""}, {"'l'", "'L'"},
        {"return NONE;", "return 0;"}, {"return BAD;", "return NONE;"}, {"return STATE;", "return BAD;"},
        {"return FULL;", "return BAD;"}, {"return NO_NUMBER;", "return -1;"}, {"return BAD_DAYS;", "return -2;"},
        {"return NO;", "return -1;"}, {"return ABSENT;", "return -1;"},
    };

    // Parts of a condition that can be left out: the first, the last, one between.
    private static final List<Pattern> PARTS = List.of(
        Pattern.compile("(?<=if \\()[^|&]*? (\\|\\||&&) "),
        Pattern.compile(" (\\|\\||&&) [^|&()]+(?:\\([^()]*\\))?[^|&()]*(?=\\))"),
        Pattern.compile(" \\|\\| [^|]+?(?= \\|\\| )"));

    private Mutants() {
    }

    /** One broken class: what was done to it, its text, and the cases that are to notice it (none named: any). */
    private record Mutant(String told, String text, List<String> cases) {
    }

    public static void main(String[] args) throws Exception {
        String source = Files.readString(SOURCE);
        List<Mutant> mutants = byHand(source);
        mutants.addAll(byRule(source));
        ExecutorService workers = Executors.newFixedThreadPool(Runtime.getRuntime().availableProcessors(), run -> {
            Thread thread = new Thread(run);
            thread.setDaemon(true);
            return thread;
        });
        List<Future<TreeSet<String>>> answers = new ArrayList<>();
        for (Mutant mutant : mutants) {
            Callable<TreeSet<String>> job = () -> noticedBy(mutant);
            answers.add(workers.submit(job));
        }
        tell(mutants, answers);
        System.exit(0);
    }

    private static void tell(List<Mutant> mutants, List<Future<TreeSet<String>>> answers) throws Exception {
        Map<String, Integer> narrowest = new HashMap<>();
        int run = 0;
        for (int i = 0; i < mutants.size(); i++) {
            TreeSet<String> noticed = answers.get(i).get();
            Mutant mutant = mutants.get(i);
            if (noticed == null) {
                if (!mutant.cases.isEmpty()) System.out.println("DOES NOT COMPILE " + mutant.told);
                continue;
            }
            run++;
            if (noticed.isEmpty()) System.out.println("UNNOTICED " + mutant.told);
            for (String name : mutant.cases) {
                if (!noticed.contains(name)) System.out.println("NOT BY " + name + ": " + mutant.told);
            }
            for (String name : noticed) {
                narrowest.merge(name, noticed.size(), Math::min);
            }
        }
        System.out.println(run + " broken classes");
        for (Edge edge : Edges.all()) {
            Integer least = narrowest.get(edge.name());
            if (least == null) System.out.println("NOTICES NOTHING " + edge.name());
            else if (least > BROAD) System.out.println("NOTICES ONLY WHAT " + least + " NOTICE " + edge.name());
        }
    }

    // ---- breaking

    /** Blocks of lines, as the head of the file tells. */
    private static List<Mutant> byHand(String source) throws IOException {
        List<Mutant> mutants = new ArrayList<>();
        if (!Files.exists(BY_HAND)) return mutants;
        for (String block : Files.readString(BY_HAND).split("\n\n+")) {
            List<String> cases = new ArrayList<>();
            String text = source;
            String old = "";
            int from = 0;
            for (String line : block.split("\n")) {
                if (line.startsWith("* ")) cases.add(line.substring(2));
                if (line.startsWith("in ")) from = placeOf(text, line.substring(3), 0);
                if (line.startsWith("- ")) old = line.substring(2);
                if (line.startsWith("+ ")) {
                    int at = placeOf(text, old, from);
                    text = text.substring(0, at) + line.substring(2) + text.substring(at + old.length());
                    from = 0;
                }
            }
            if (!cases.isEmpty()) mutants.add(new Mutant("by hand: " + block.replace('\n', ' '), text, cases));
        }
        return mutants;
    }

    private static int placeOf(String text, String part, int from) {
        int at = text.indexOf(part, from);
        if (at < 0) throw new IllegalStateException("not in the class: " + part);
        return at;
    }

    private static List<Mutant> byRule(String source) {
        List<Mutant> mutants = new ArrayList<>();
        String[] lines = source.split("\n", -1);
        for (int i = 0; i < lines.length; i++) {
            String code = lines[i].replaceAll("//.*", "");
            if (code.isBlank() || code.matches("\\s*(/\\*\\*|\\*|import ).*")) continue;
            for (String changed : changesOf(code)) {
                mutants.add(mutant(lines, i, changed));
            }
            if (isGuard(code) && i + 1 < lines.length && isGuard(lines[i + 1])) {
                String[] swapped = lines.clone();
                swapped[i] = lines[i + 1];
                swapped[i + 1] = lines[i];
                mutants.add(mutant(swapped, i, swapped[i]));
            }
        }
        return mutants;
    }

    private static boolean isGuard(String line) {
        return line.trim().startsWith("if (") && line.trim().endsWith(";");
    }

    private static Mutant mutant(String[] lines, int i, String changed) {
        String[] all = lines.clone();
        all[i] = changed;
        return new Mutant((i + 1) + ": " + changed.trim() + "   for   " + lines[i].trim(), String.join("\n", all), List.of());
    }

    private static List<String> changesOf(String code) {
        List<String> changes = new ArrayList<>();
        for (String[] swap : SWAPS) {
            for (int at = code.indexOf(swap[0]); at >= 0; at = code.indexOf(swap[0], at + 1)) {
                changes.add(code.substring(0, at) + swap[1] + code.substring(at + swap[0].length()));
            }
        }
        Matcher number = Pattern.compile("(?<![\\w.'])\\d+(?![\\w'])").matcher(code);
        while (number.find()) {
            int n = (int) Long.parseLong(number.group());
            changes.add(code.substring(0, number.start()) + (n + 1) + code.substring(number.end()));
            changes.add(code.substring(0, number.start()) + (n - 1) + code.substring(number.end()));
        }
        for (Pattern pattern : PARTS) {
            Matcher part = pattern.matcher(code);
            while (part.find()) {
                changes.add(code.substring(0, part.start()) + code.substring(part.end()));
            }
        }
        // A whole statement left out, and a condition that always or never holds.
        String bare = code.trim();
        if (bare.endsWith(";") && !bare.startsWith("private ") && !bare.startsWith("public ")) changes.add(";");
        Matcher guard = Pattern.compile("if \\((.*)\\) (return|continue|break|\\{)").matcher(code);
        if (guard.find()) {
            changes.add(code.substring(0, guard.start(1)) + "true" + code.substring(guard.end(1)));
            changes.add(code.substring(0, guard.start(1)) + "false" + code.substring(guard.end(1)));
        }
        return changes;
    }

    // ---- trying

    /** Null where it does not compile; a class that comes to no end is noticed by that. */
    private static TreeSet<String> noticedBy(Mutant mutant) throws Exception {
        Map<String, byte[]> classes = compiled(mutant.text);
        if (classes == null) return null;
        Method wrongOnes = new Loader(classes).loadClass("Edges").getMethod("wrongOnes");
        TreeSet<String> wrong = new TreeSet<>();
        Thread run = new Thread(() -> {
            try {
                for (Object name : (List<?>) wrongOnes.invoke(null)) {
                    wrong.add((String) name);
                }
            } catch (ReflectiveOperationException e) {
                wrong.add("no cases: " + e.getCause());
            }
        });
        run.setDaemon(true);
        run.start();
        run.join(PATIENCE_MILLIS);
        return run.isAlive() ? new TreeSet<>(List.of("no end")) : wrong;
    }

    /** The class files, by name; null where it does not compile. */
    private static Map<String, byte[]> compiled(String text) throws IOException {
        JavaCompiler compiler = ToolProvider.getSystemJavaCompiler();
        Map<String, ByteArrayOutputStream> written = new HashMap<>();
        JavaFileObject source = new SimpleJavaFileObject(URI.create("string:///ThickerBook.java"), JavaFileObject.Kind.SOURCE) {
            @Override
            public CharSequence getCharContent(boolean ignore) {
                return text;
            }
        };
        JavaFileManager standard = compiler.getStandardFileManager(null, null, null);
        try (JavaFileManager files = new ForwardingJavaFileManager<>(standard) {
            @Override
            public JavaFileObject getJavaFileForOutput(Location at, String name, JavaFileObject.Kind kind, FileObject sibling) {
                return new SimpleJavaFileObject(URI.create("mem:///" + name.replace('.', '/')), kind) {
                    @Override
                    public OutputStream openOutputStream() {
                        return written.computeIfAbsent(name, n -> new ByteArrayOutputStream());
                    }
                };
            }
        }) {
            boolean fine = compiler.getTask(Writer.nullWriter(), files, d -> { }, null, null, List.of(source)).call();
            if (!fine) return null;
        }
        Map<String, byte[]> classes = new HashMap<>();
        written.forEach((name, bytes) -> classes.put(name, bytes.toByteArray()));
        return classes;
    }

    /** Loads the broken class, and the cases anew, so that they call that one. */
    private static final class Loader extends ClassLoader {
        private final Map<String, byte[]> broken;

        Loader(Map<String, byte[]> broken) {
            super(ClassLoader.getPlatformClassLoader());
            this.broken = broken;
        }

        @Override
        protected Class<?> findClass(String name) throws ClassNotFoundException {
            byte[] bytes = broken.get(name);
            if (bytes == null) bytes = read(name);
            return defineClass(name, bytes, 0, bytes.length);
        }

        private static byte[] read(String name) throws ClassNotFoundException {
            try (InputStream in = Mutants.class.getResourceAsStream("/" + name + ".class")) {
                if (in == null) throw new ClassNotFoundException(name);
                return in.readAllBytes();
            } catch (IOException e) {
                throw new ClassNotFoundException(name, e);
            }
        }
    }
}

import com.sun.management.ThreadMXBean;
import java.io.IOException;
import java.lang.management.ManagementFactory;
import java.lang.reflect.Field;
import java.lang.reflect.Method;
import java.lang.reflect.Modifier;
import java.nio.file.Files;
import java.nio.file.Path;
import java.util.ArrayList;
import java.util.Arrays;
import java.util.List;
import java.util.Set;
import java.util.TreeSet;
import java.util.regex.Matcher;
import java.util.regex.Pattern;

/** The public face, the rules of LANGUAGE.md that can be read from class and text, and what the calls make. */
public final class FaceTest {
    private static final Due DUE = new Due("FaceTest");
    private static final Path SOURCE = Path.of("src/main/java/ThickerBook.java");
    private static final String[] FACE = {
        "int act(int,int,int)", "int as(int,int)", "int at(int,int)", "int book(int)", "int come(int)",
        "int count(int)", "int done(int)", "int feed(int)", "int few(int,int)", "int firm(int,int)",
        "int glues(int,int)", "int had(int)", "int image()", "int lend(int,int)", "int likes(int,int)",
        "int looked()", "int most(int)", "int never()", "int note(int,int)", "int of(int,int)", "int on(int,int)",
        "int order(int)", "int pass(int)", "int paste(int,boolean)", "int plan(int,int)", "int reach(int)",
        "int reader(int,int)", "int row(int,int,int)", "int see(int,int,boolean)", "int swells(int)",
        "int tears(int,int)", "int told(int)", "int town()", "int trace(int)", "int undo()", "int until(int)",
        "int wanted(int)", "long mean(int,int)", "long odds(int,int)",
    };
    private static final String[] FORBIDDEN = {
        "throw", "throws", "try", "catch", "finally", "synchronized", "assert", "protected", "volatile", "native",
        "transient", "instanceof", "var", "yield", "Object", "System", "Exception", "double", "float",
    };

    private FaceTest() {
    }

    public static void main(String[] args) throws IOException {
        face();
        constants();
        members(ThickerBook.class);
        classes();
        text(Files.readString(SOURCE));
        whatCallsMake();
        DUE.end();
    }

    private static void face() {
        DUE.isTrue("the class is public and final",
            Modifier.isPublic(ThickerBook.class.getModifiers()) && Modifier.isFinal(ThickerBook.class.getModifiers()));
        DUE.is("constructors", ThickerBook.class.getDeclaredConstructors().length, 1);
        DUE.is("constructor's parameters", ThickerBook.class.getConstructors()[0].getParameterCount(), 0);
        Set<String> methods = new TreeSet<>();
        for (Method m : ThickerBook.class.getDeclaredMethods()) {
            if (!Modifier.isPrivate(m.getModifiers())) methods.add(signature(m));
        }
        DUE.isTrue("the face is " + methods, methods.equals(new TreeSet<>(Arrays.asList(FACE))));
    }

    private static String signature(Method m) {
        List<String> types = new ArrayList<>();
        for (Class<?> type : m.getParameterTypes()) {
            types.add(type.getSimpleName());
        }
        String kind = Modifier.isPublic(m.getModifiers()) && !Modifier.isStatic(m.getModifiers()) ? "" : "not public ";
        return kind + m.getReturnType().getSimpleName() + " " + m.getName() + "(" + String.join(",", types) + ")";
    }

    private static void constants() {
        DUE.is("NONE", ThickerBook.NONE, -1);
        DUE.is("BAD", ThickerBook.BAD, -2);
        DUE.is("STATE", ThickerBook.STATE, -3);
        DUE.is("FULL", ThickerBook.FULL, -4);
        DUE.is("NO", ThickerBook.NO, Long.MIN_VALUE);
        DUE.is("constants", ThickerBook.class.getFields().length, 5);
    }

    /** Rules 1, 5 and 11. */
    private static void members(Class<?> type) {
        Set<String> publics = new TreeSet<>();
        for (Method m : ThickerBook.class.getMethods()) {
            publics.add(m.getName());
        }
        int fields = 0;
        for (Field f : type.getDeclaredFields()) {
            boolean isStatic = Modifier.isStatic(f.getModifiers());
            DUE.isTrue(type + " " + f.getName() + " is static, not final", !isStatic || Modifier.isFinal(f.getModifiers()));
            if (!Modifier.isPublic(f.getModifiers())) DUE.isTrue(f + " is private", Modifier.isPrivate(f.getModifiers()));
            if (!isStatic) fields++;
        }
        DUE.isTrue(type + " has " + fields + " fields", fields <= 20);
        for (Method m : type.getDeclaredMethods()) {
            DUE.isTrue(m + " takes at most seven", m.getParameterCount() <= 7);
            if (Modifier.isPrivate(m.getModifiers())) DUE.isTrue(m + " has a public one's name", !publics.contains(m.getName()));
        }
    }

    private static void classes() {
        Class<?>[] inside = ThickerBook.class.getDeclaredClasses();
        DUE.isTrue("twelve classes at most", inside.length < 12);
        for (Class<?> type : inside) {
            DUE.isTrue(type + " is static", Modifier.isStatic(type.getModifiers()));
            DUE.isTrue(type + " is private", Modifier.isPrivate(type.getModifiers()));
            members(type);
        }
    }

    private static void text(String source) {
        for (int i = 0; i < source.length(); i++) {
            DUE.isTrue("sign " + (int) source.charAt(i), source.charAt(i) < 128);
        }
        String code = source.replaceAll("(?s)/\\*.*?\\*/", "").replaceAll("//[^\n]*", "").replaceAll("\"[^\"\n]*\"", "\"\"");
        for (String word : FORBIDDEN) {
            DUE.isTrue("forbidden: " + word, !Pattern.compile("\\b" + word + "\\b").matcher(code).find());
        }
        DUE.isTrue("no lambda, no method reference", !code.contains("->") && !code.contains("::"));
        DUE.isTrue("no text joined by +", !code.contains("\"\" +") && !code.contains("+ \"\""));
        DUE.isTrue("no while without a counter", !Pattern.compile("\\bwhile\\b").matcher(code).find());
        indices(code);
        divisors(code);
        methodLengths(source);
    }

    /** An index is used in the few places alone that look at it first. */
    private static void indices(String code) {
        Set<String> found = new TreeSet<>();
        Matcher matcher = Pattern.compile("[a-zA-Z)\\]]+\\[[^\\]]+\\]").matcher(code);
        while (matcher.find()) {
            if (!matcher.group().startsWith("int[")) found.add(matcher.group());
        }
        DUE.isTrue("indices: " + found, found.equals(new TreeSet<>(List.of("row[i]", "to[i]", "has[r]", "tape[place]"))));
    }

    /** What is divided by is a constant, or was looked at. */
    private static void divisors(String code) {
        Set<String> found = new TreeSet<>();
        Matcher matcher = Pattern.compile("[/%] (\\w+)").matcher(code);
        while (matcher.find()) {
            found.add(matcher.group(1));
        }
        found.removeIf(divisor -> divisor.matches("[1-9][0-9]*"));
        DUE.isTrue("divisors: " + found, found.equals(new TreeSet<>(List.of("DIGITS", "ROW", "divisor", "rest"))));
    }

    private static void methodLengths(String source) {
        String[] lines = source.split("\n");
        int from = -1;
        for (int i = 0; i < lines.length; i++) {
            if (lines[i].matches(" {4}( {4})?\\S.*\\) \\{") && !lines[i].contains(" class ")) from = i;
            if (lines[i].matches(" {4}( {4})?}") && from >= 0) {
                DUE.isTrue("line " + (from + 1) + ": a method of " + (i - from + 1) + " lines", i - from < 60);
                from = -1;
            }
        }
    }

    /** Rule 12: asking makes next to nothing, so that 512 calls stay far below what the room holds. */
    private static void whatCallsMake() {
        ThreadMXBean threads = (ThreadMXBean) ManagementFactory.getThreadMXBean();
        long self = Thread.currentThread().getId();
        long most = 0;
        for (int round = 0; round < 3; round++) {
            ThickerBook x = new ThickerBook();
            Calls.books(x, 90, 80, 70, 60, 50, 40, 30);
            Calls.readers(x, 0, 1, 3, 2, 5, 3, 6, 4);
            Calls.lend(x, 0, 1, 2, 3);
            Calls.town(x, "love 5 b=1|d>3;bore 4 t<5&!(r=1)");
            long before = threads.getThreadAllocatedBytes(self);
            for (int n = 0; n < 25; n++) {
                askAll(x, n);
            }
            most = threads.getThreadAllocatedBytes(self) - before;
        }
        DUE.isTrue("500 calls made " + most + " bytes", most < 200_000);
    }

    private static void askAll(ThickerBook x, int n) {
        x.most(0);
        x.few(0, 6);
        x.never();
        x.reach(3);
        x.order(0);
        x.on(40, 1);
        x.until(1);
        x.had(1);
        x.firm(2, 0);
        x.odds(3, 0);
        x.mean(40, 0);
        x.done(0);
        x.wanted(2);
        x.swells(9);
        x.image();
        x.undo();
        x.act(n % 4, 2, n);
        x.town();
        x.glues(0, 6);
        x.likes(0, 0);
    }
}

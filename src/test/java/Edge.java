import java.util.ArrayList;
import java.util.List;
import java.util.function.Consumer;

/** A boundary case that a sentence of the document names, and the test of it. */
final class Edge {
    final int promise;
    final String sentence;
    private final String what;
    private final Consumer<Edge> test;
    private final List<String> wrong = new ArrayList<>();
    private int asked = 0;

    Edge(int promise, String sentence, String what, Consumer<Edge> test) {
        this.promise = promise;
        this.sentence = sentence;
        this.what = what;
        this.test = test;
    }

    String name() {
        return promise + " " + what;
    }

    void is(String call, long got, long want) {
        asked++;
        if (got != want) wrong.add(call + " answered " + got + ", due is " + want);
    }

    /** What all tells behind something is to be what it told before it. */
    void same(String what, String before, String after) {
        asked++;
        if (!before.equals(after)) wrong.add(what + " changed " + before + " to " + after);
    }

    /** Calls that are to change nothing. */
    void unchanged(String what, ThickerBook x, Runnable calls) {
        String before = Calls.all(x);
        calls.run();
        same(what, before, Calls.all(x));
    }

    /** What was not as due. */
    List<String> run() {
        wrong.clear();
        asked = 0;
        test.accept(this);
        if (asked == 0) wrong.add("nothing was asked");
        return wrong;
    }
}

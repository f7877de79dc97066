import java.util.ArrayList;
import java.util.HashSet;
import java.util.List;
import java.util.Set;
import java.util.function.Consumer;

/** All boundary cases that the document names, promise by promise. */
public final class Edges {
    private final List<Edge> all = new ArrayList<>();
    private final Set<String> names = new HashSet<>();
    private int promise = 0;
    private String sentence = "";

    private Edges() {
    }

    static List<Edge> all() {
        Edges edges = new Edges();
        TapeEdges.add(edges);
        ReaderEdges.add(edges);
        LikingEdges.add(edges);
        HavingEdges.add(edges);
        DayEdges.add(edges);
        OrderEdges.add(edges);
        SeenEdges.add(edges);
        PlanEdges.add(edges);
        ActEdges.add(edges);
        return edges.all;
    }

    /** The names of the cases that are not answered as due, or not at all. */
    public static List<String> wrongOnes() {
        List<String> names = new ArrayList<>();
        for (Edge edge : all()) {
            if (!isFine(edge)) names.add(edge.name());
        }
        return names;
    }

    private static boolean isFine(Edge edge) {
        try {
            return edge.run().isEmpty();
        } catch (RuntimeException | StackOverflowError e) {
            return false;
        }
    }

    /** The sentence that the cases behind it name, as the document has it, and the promise through which it is seen. */
    void of(int nextPromise, String nextSentence) {
        promise = nextPromise;
        sentence = nextSentence;
    }

    void edge(String what, Consumer<Edge> test) {
        Edge edge = new Edge(promise, sentence, what, test);
        if (!names.add(edge.name())) throw new IllegalStateException("two cases " + edge.name());
        all.add(edge);
    }
}

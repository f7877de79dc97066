import java.io.IOException;
import java.nio.file.Files;
import java.nio.file.Path;
import java.util.List;

/** Runs all boundary cases. */
public final class EdgesTest {
    private static final Path DOCUMENT = Path.of("../shared/DOC.md");

    private EdgesTest() {
    }

    public static void main(String[] args) throws IOException {
        List<Edge> all = Edges.all();
        tellWhatIsNotQuoted(all);
        int wrong = 0;
        boolean[] met = new boolean[41];
        for (Edge edge : all) {
            met[edge.promise] = true;
            for (String line : edge.run()) {
                wrong++;
                System.out.println("Promise " + edge.name() + ": \"" + edge.sentence + "\": " + line);
            }
        }
        for (int promise = 1; promise <= 40; promise++) {
            if (met[promise]) continue;
            wrong++;
            System.out.println("Promise " + promise + " has no case");
        }
        System.out.println("EdgesTest: " + all.size() + " cases, " + wrong + " answers not as due");
        if (wrong != 0) System.exit(1);
    }

    /** Only told: a document that is worded anew is no fault of the class. */
    private static void tellWhatIsNotQuoted(List<Edge> all) throws IOException {
        if (!Files.exists(DOCUMENT)) return;
        String document = Files.readString(DOCUMENT).replaceAll("\\s+", " ");
        for (Edge edge : all) {
            if (!document.contains(edge.sentence)) System.out.println("Not in DOC.md: " + edge.sentence);
        }
    }
}

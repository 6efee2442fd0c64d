import java.io.IOException;
import java.nio.file.Files;
import java.nio.file.Path;
import java.util.ArrayList;
import java.util.List;
import java.util.Set;
import java.util.TreeSet;

/** A sentence of the document that tells of a case at an edge, with the test that is its own. */
abstract class Edges extends Kit {
    static final int UNBOUND = ERROR + Macroloom.UNBOUND;
    static final int ZERO = ERROR + Macroloom.ZERO;
    static final int TYPE = ERROR + Macroloom.TYPE;
    static final int RANGE = ERROR + Macroloom.RANGE;
    static final int DEPTH = ERROR + Macroloom.DEPTH;
    static final int ASTRAY = ERROR + Macroloom.ASTRAY;
    static final int BUDGET = ERROR + Macroloom.BUDGET;

    private static final Path DOCUMENT = Path.of("../shared/DOC.md");
    private static final List<String> SENTENCES = new ArrayList<>();
    private static final Set<Integer> PROMISES = new TreeSet<>();

    /** Tests a sentence, quoted as it stands in the document, that belongs to a promise, on a new object. */
    static void edge(int promise, String sentence, Call test) {
        about = "promise " + promise + ", \"" + sentence + "\"";
        SENTENCES.add(sentence);
        PROMISES.add(promise);
        fresh();
        int before = checks;
        try {
            test.made();
        } catch (RuntimeException thrown) {
            fails("threw " + thrown + " at " + place(thrown));
        }
        if (checks == before) {
            fails("nothing was checked");
        }
    }

    static void fresh() {
        x = new Macroloom();
    }

    private static void fails(String how) {
        wrong++;
        System.out.println(about + ": " + how);
    }

    private static String place(RuntimeException thrown) {
        for (StackTraceElement element : thrown.getStackTrace()) {
            if (element.getClassName().endsWith("Edges")) {
                return element.toString();
            }
        }
        return "?";
    }

    static int tested() {
        return SENTENCES.size();
    }

    /** Each promise has a sentence, and each sentence stands in the document as it is quoted. */
    static void compareWithDocument() throws IOException {
        about = "the document";
        for (int promise = 1; promise <= 31; promise++) {
            due("a sentence of promise " + promise, PROMISES.contains(promise), true);
        }
        if (!Files.exists(DOCUMENT)) {
            return;
        }
        String document = Files.readString(DOCUMENT).replaceAll("\\s+", " ");
        for (String sentence : SENTENCES) {
            due("\"" + sentence + "\"", document.contains(sentence), true);
        }
    }
}

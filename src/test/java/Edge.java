import java.io.IOException;
import java.nio.file.Files;
import java.nio.file.Path;
import java.util.Set;
import java.util.TreeSet;
import java.util.function.IntSupplier;
import java.util.function.IntUnaryOperator;

/**
 * Boundary cases, each told under the words of the document that name it. The words have to stand in the
 * document, and at least one answer has to be asked for under them, so that no sentence is only claimed.
 */
final class Edge {
    static final int TERMS = 0;
    private static final int PROMISES = 31;

    private final Check check = new Check("EdgeTest");
    private final String document;
    private final Set<Integer> told = new TreeSet<>();
    private String words = "";
    private int askedAhead = -1;

    Edge() throws IOException {
        document = Files.readString(Path.of("../shared/DOC.md"));
    }

    /** What is asked from here on tests these words: of a promise, or of the rows ahead of all promises. */
    void says(int promise, String sentence) {
        closeSentence();
        words = sentence;
        askedAhead = check.asked();
        told.add(promise);
        if (!section(promise).contains(sentence)) {
            check.due("the document says \"" + sentence + "\" in promise " + promise, 0, 1);
        }
    }

    void due(String call, long got, long want) {
        check.due("\"" + words + "\": " + call, got, want);
    }

    void row(String call, IntUnaryOperator asking, int... wants) {
        check.row("\"" + words + "\": " + call, asking, wants);
    }

    void refused(String call, TideTable table, IntSupplier asking, int refusal) {
        check.refused("\"" + words + "\": " + call, table, asking, refusal);
    }

    void end() {
        closeSentence();
        for (int promise = TERMS; promise <= PROMISES; promise++) {
            check.due("a boundary case of promise " + promise, told.contains(promise) ? 1 : 0, 1);
        }
        check.end();
    }

    private void closeSentence() {
        if (check.asked() == askedAhead) {
            check.due("something is asked under \"" + words + "\"", 0, 1);
        }
    }

    private String section(int promise) {
        String head = promise == TERMS ? "## What it is" : "## Promise " + promise + ":";
        String next = promise == PROMISES ? "## Not promised" : "## Promise " + (promise + 1) + ":";
        return document.substring(document.indexOf(head), document.indexOf(next));
    }
}

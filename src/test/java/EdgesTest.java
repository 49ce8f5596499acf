import java.io.IOException;
import java.util.Set;

/**
 * Every sentence of the document that names a case (too small, too large, empty, full,
 * a wrap-around, a refused call) has a test of its own, and holds.
 */
public final class EdgesTest {
    /** Headings, and sentences that promise nothing that a call could show. */
    private static final Set<String> WITHOUT_CASE = Set.of(
        "What it is | A simulator of a generational garbage collector: a copying nursery, an old"
            + " generation that is marked and swept in steps, a remembered set, and promotion by"
            + " age.",
        "What it is | what later calls answer is free.",
        "MINOR COLLECTION | A minor collection has four phases.",
        "MINOR COLLECTION | Phase 1, tracing.",
        "MINOR COLLECTION | A list of survivors is built.",
        "MINOR COLLECTION | Phase 2, ageing and promotion.",
        "MINOR COLLECTION | Phase 3, freeing.",
        "MINOR COLLECTION | Phase 4, remembered set.",
        "MAJOR COLLECTION | Which unit is performed depends on the phase:",
        "SCRIPTS | The constants:",
        "SCRIPTS | The constructor and the methods follow, a promise each: the signature, then"
            + " what it does.",
        "Not promised | How the state is held inside the object is free, as are the speed of each"
            + " call, the text of toString and the behaviour of equals and hashCode.",
        "Not promised | Use of one object from several threads at once is not promised to be safe.",
        "Not promised | Nothing is promised beyond the answers and state changes described above,"
            + " and nothing about an object after its 512th call.");

    private EdgesTest() {
    }

    public static void main(String[] args) throws IOException {
        Edges edges = new Edges();
        ObjectEdges.tests(edges);
        MinorEdges.tests(edges);
        MajorEdges.tests(edges);
        ErrorEdges.tests(edges);
        ScriptEdges.tests(edges);
        MutatorEdges.tests(edges);
        QuestionEdges.tests(edges);
        TextEdges.tests(edges);
        edges.holdAgainst(Sentences.all(), WITHOUT_CASE);
        edges.end();
    }
}

import java.util.LinkedHashSet;
import java.util.List;
import java.util.Set;

/** Runs tests of single sentences of the document, and knows which sentences have one. */
final class Edges {
    interface Test {
        void run(Due due);
    }

    private final Set<String> tested = new LinkedHashSet<>();
    private final Due all = new Due("EdgesTest");
    private String section = "";

    Edges in(String name) {
        section = name;
        return this;
    }

    Edges of(String sentence, Test test) {
        String place = section + " | " + sentence;
        all.holds("tested twice: " + place, tested.add(place));
        Due due = new Due(place);
        try {
            test.run(due);
        } catch (RuntimeException | StackOverflowError fault) {
            due.tell("threw " + fault);
        }
        all.holds("does not hold: " + place, !due.isWrong());
        return this;
    }

    /** Every sentence has a test of its own, but for those that name no case at all. */
    void holdAgainst(List<String> sentences, Set<String> withoutCase) {
        for (String place : sentences) {
            boolean due = !withoutCase.contains(place);
            all.holds((due ? "has no test: " : "has a test though it names no case: ") + place,
                tested.contains(place) == due);
        }
        for (String place : tested) {
            all.holds("isn't a sentence of the document: " + place, sentences.contains(place));
        }
        for (String place : withoutCase) {
            all.holds("isn't a sentence of the document: " + place, sentences.contains(place));
        }
    }

    void end() {
        all.end();
    }
}

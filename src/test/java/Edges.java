import java.util.ArrayList;
import java.util.List;
import java.util.Map;

/** Sentences of the document that name an edge, each with a test of its own. */
final class Edges {
    /** The words, where they stand, and the test that fails if they are broken. */
    static final class Edge {
        final String place;
        final String words;
        final Runnable test;

        Edge(String place, String words, Runnable test) {
            this.place = place;
            this.words = words;
            this.test = test;
        }

        @Override
        public String toString() {
            return place + " «" + words + "»";
        }
    }

    private final List<Edge> all = new ArrayList<>();
    private String place = "";

    /** The sentences told from now on stand in this place of the document. */
    void in(String placeOfNext) {
        place = placeOfNext;
    }

    void sentence(String words, Runnable test) {
        all.add(new Edge(place, words, test));
    }

    List<Edge> all() {
        return all;
    }

    /** Tests each sentence, and that the document has its words; ends the test program. */
    void run() {
        if (Document.isThere()) {
            lookUpAll(Document.places());
        }
        for (Edge edge : all) {
            int asDue = Due.answersAsDue();
            int wrong = Due.answersWrong();
            edge.test.run();
            if (Due.answersWrong() != wrong) {
                System.out.println("broken: " + edge);
            }
            Due.holds(edge + " is tested", Due.answersAsDue() + Due.answersWrong() != asDue + wrong);
        }
        System.out.println(all.size() + " sentences");
        Due.end();
    }

    private void lookUpAll(Map<String, String> document) {
        for (Edge edge : all) {
            Due.holds(edge + " stands in the document", document.getOrDefault(edge.place, "").contains(edge.words));
        }
    }
}

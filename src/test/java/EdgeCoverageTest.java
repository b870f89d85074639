import java.util.ArrayList;
import java.util.Arrays;
import java.util.List;
import java.util.Map;
import java.util.regex.Matcher;
import java.util.regex.Pattern;

/** Whatever the document's terms and promises say of an edge stands in a sentence that has a test of its own. */
public final class EdgeCoverageTest {
    /** The words by which the document names an edge: ranges, what is least and most, empty, full, refused, around. */
    private static final Pattern EDGE = Pattern.compile("\\d+ \\.\\. \\d+|\\bat (?:most|least|first)\\b|\\bor (?:more|less|sooner)\\b"
            + "|left over|\\(cut\\)|\\b(?:none|NONE|BAD|NO|FULL|empty|once|again|first|fewest|least|beyond|alike|edge|below"
            + "|6th|any|only|another|lowest|others|behind one|ahead of each)\\b|too early|-5|-10|-1\\b|\\b999\\b|\\b150\\b|\\b512\\b");

    private EdgeCoverageTest() {
    }

    public static void main(String[] args) {
        if (Document.isThere()) {
            allEdgesAreTested();
        }
        Due.end();
    }

    private static void allEdgesAreTested() {
        Edges edges = new Edges();
        Section1EdgeTest.tell(edges);
        Section2EdgeTest.tell(edges);
        RefusalEdgeTest.tell(edges);
        Promise1To12EdgeTest.tell(edges);
        Promise13To25EdgeTest.tell(edges);
        Promise26To33EdgeTest.tell(edges);
        Map<String, String> places = Document.places();
        List<String> terms = new ArrayList<>(List.of(Document.SECTION_1, Document.SECTION_2, Document.BEHIND));
        for (int promise = 1; promise <= 33; promise++) {
            terms.add(Document.promise(promise));
        }
        for (String place : terms) {
            Due.holds("the document has " + place, places.containsKey(place));
            eachEdgeIsTested(place, places.getOrDefault(place, ""), edges);
        }
    }

    private static void eachEdgeIsTested(String place, String words, Edges edges) {
        boolean[] tested = new boolean[words.length()];
        int sentences = 0;
        for (Edges.Edge edge : edges.all()) {
            if (edge.place.equals(place)) {
                sentences++;
                for (int at = words.indexOf(edge.words); at >= 0; at = words.indexOf(edge.words, at + 1)) {
                    Arrays.fill(tested, at, at + edge.words.length(), true);
                }
            }
        }
        Due.holds(place + " has a sentence with a test of its own", sentences > 0);
        Matcher edge = EDGE.matcher(words);
        while (edge.find()) {
            int from = Math.max(0, edge.start() - 40);
            int to = Math.min(words.length(), edge.end() + 40);
            Due.holds(place + ": «.. " + words.substring(from, to) + " ..» is tested", tested[edge.start()] && tested[edge.end() - 1]);
        }
    }
}

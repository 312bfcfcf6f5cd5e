/** Each sentence of the document that names an edge has a test of its own, under the sentence's words. */
public final class WeirWordsEdges {
    public static void main(String[] args) {
        EdgesOfRows.all();
        EdgesOfTexts.all();
        EdgesOfMinutes.all();
        EdgesOfActs.all();
        EdgesOfForetold.all();
        EdgesOfAsks.all();
        EdgesOfRefusals.all();
        System.out.println(Due.sentences + " sentences, " + Due.passed + " passed, " + Due.failed + " failed");
        if (Due.failed != 0) {
            System.exit(1);
        }
    }
}

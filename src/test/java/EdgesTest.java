import java.util.Map;

/**
 * The document read promise by promise: a test of its own for each sentence that names a boundary case.
 * Each one names the sentence; at the end no sentence may be left that none has named.
 */
public final class EdgesTest {
    public static void main(String[] args) throws Exception {
        BusesEdges.run();
        FamiliesEdges.run();
        WardsEdges.run();
        FriendsEdges.run();
        SticksEdges.run();
        SheetsEdges.run();
        ObjectEdges.run();
        for (Map.Entry<String, String> left : Doc.unnamed().entrySet()) {
            Due.isTrue(left.getKey() + " has no words that no test names: " + left.getValue(), false);
        }
        Due.end();
    }
}

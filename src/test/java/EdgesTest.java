/**
 * The boundary cases of the document, sentence by sentence; each answer is told with the words that it
 * holds. At last no word of the document may be left that no test has held (its public face is FaceTest's).
 */
public final class EdgesTest {
    public static void main(String[] args) {
        SlotEdges.all();
        TickEdges.all();
        GrammarEdges.all();
        InputEdges.all();
        NowEdges.all();
        FoundEdges.all();
        AheadEdges.all();
        OtherwiseEdges.all();
        TextEdges.all();
        ChangeEdges.all();
        RuleEdges.all();
        WholeEdges.all();
        Doc.checkAllIsHeld();
        Check.end();
    }
}

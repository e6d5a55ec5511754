import java.io.IOException;
import java.util.List;

/** A test for each clause of the document that names an edge; a clause that no test has named is told. */
final class EdgesTest {
    private EdgesTest() {
    }

    public static void main(String[] args) throws IOException {
        Check check = new Check();
        Doc doc = new Doc();
        List<EdgeGroup> groups = List.of(new ReturnEdges(check, doc), new FamilyEdges(check, doc),
            new StateEdges(check, doc), new TickEdges(check, doc), new LossEdges(check, doc),
            new OpeningEdges(check, doc), new TextEdges(check, doc), new HistoryEdges(check, doc),
            new ActEdges(check, doc), new TellingEdges(check, doc), new TrialEdges(check, doc));
        groups.forEach(EdgeGroup::all);
        for (String words : doc.unnamedEdges()) {
            check.holds("no test is about " + words, false);
        }
        check.end();
    }
}

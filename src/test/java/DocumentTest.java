import java.io.IOException;
import java.util.List;

/** A test for each clause of the document, from its first line; a clause that no test has named is told. */
final class DocumentTest {
    private DocumentTest() {
    }

    public static void main(String[] args) throws IOException {
        Check check = new Check();
        Doc doc = new Doc();
        List<ClauseGroup> groups = List.of(new DescriptionClauses(check, doc),
            new PromiseClauses(check, doc), new ReturnEdges(check, doc), new FamilyEdges(check, doc),
            new StateEdges(check, doc), new TickEdges(check, doc), new LossEdges(check, doc),
            new OpeningEdges(check, doc), new TextEdges(check, doc), new HistoryEdges(check, doc),
            new ActEdges(check, doc), new TellingEdges(check, doc), new TrialEdges(check, doc));
        groups.forEach(ClauseGroup::all);
        for (String words : doc.unnamedClauses()) {
            check.holds("no test is about " + words, false);
        }
        check.end();
    }
}

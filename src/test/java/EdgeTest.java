import java.io.IOException;
import java.util.List;

/** Every sentence of the document that names a boundary: what is still taken, and what is refused and changes nothing. */
public final class EdgeTest {
    public static void main(String[] args) throws IOException {
        Check check = new Check();
        Document document = new Document();
        new LedgerEdges(check, document).run();
        new PostingEdges(check, document).run();
        new PostedEdges(check, document).run();
        new StockEdges(check, document).run();
        List<String> untested = document.untested();
        for (String line : untested) {
            System.out.println("no test is named for " + line);
        }
        check.due("sentences without a test", untested.size(), 0);
        check.end();
    }
}

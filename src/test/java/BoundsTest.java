import java.io.IOException;

/** Every sentence of the document that names a bound: calls at the bound and beyond it. */
public final class BoundsTest {
    public static void main(String[] args) throws IOException {
        Due due = new Due("BoundsTest");
        Document document = new Document();
        new BoundsOfMap(due, document).tell();
        new BoundsOfNames(due, document).tell();
        new BoundsOfStanding(due, document).tell();
        new BoundsOfText(due, document).tell();
        new BoundsOfUndo(due, document).tell();
        new BoundsOfRivers(due, document).tell();
        new BoundsOfLabels(due, document).tell();
        new BoundsOfLooks(due, document).tell();
        new BoundsOfStretches(due, document).tell();
        document.isQuoted(due);
        due.end();
    }
}

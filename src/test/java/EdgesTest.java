import java.nio.file.Files;
import java.nio.file.Path;

/** Each sentence of the document that names a boundary case, and a test that names the sentence. */
public final class EdgesTest {
    private static final int PROMISES = 41;

    public static void main(String[] args) throws Exception {
        String path = args.length > 1 ? args[1] : "../shared/DOC.md";
        Document document = Files.exists(Path.of(path)) ? new Document(path) : null;
        Edges.readFrom(document);
        EdgesOfErrors.all();
        EdgesOfItems.all();
        EdgesOfTexts.all();
        EdgesOnAir.all();
        EdgesOfThought.all();
        EdgesOfVoices.all();
        EdgesOfSheets.all();
        EdgesOfImages.all();
        if (document == null) {
            System.out.println(path + " isn't there: the sentences were not looked up");
        } else {
            allNamed(document);
        }
        Checks.end();
    }

    private static void allNamed(Document document) {
        named(document, "Terms");
        for (int promise = 1; promise <= PROMISES; promise++) {
            named(document, String.valueOf(promise));
        }
    }

    private static void named(Document document, String section) {
        String unnamed = document.unnamed(section);
        Checks.holds(section + ": no test names '" + unnamed + "'", unnamed.isEmpty());
    }
}

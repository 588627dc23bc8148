import java.nio.charset.StandardCharsets;
import java.nio.file.Files;
import java.nio.file.Path;

/** Each sentence of the document, with the answers at the bounds that it names and beyond them. */
public final class EdgesTest {
    static boolean allHold(String doc) {
        EdgesOfText.answers();
        EdgesOfText.places();
        EdgesOfText.tape();
        EdgesOfText.lines();
        EdgesOfText.faults();
        EdgesOfText.promises();
        EdgesOfNews.terms();
        EdgesOfNews.promises();
        EdgesOfDeals.calls();
        EdgesOfDeals.deals();
        EdgesOfDeals.promisesOfCalls();
        EdgesOfDeals.promisesOfDeals();
        EdgesOfGains.terms();
        EdgesOfGains.promises();
        EdgesOfSheets.worth();
        EdgesOfSheets.images();
        EdgesOfSheets.sheets();
        return Sentences.allHold(doc);
    }

    public static void main(String[] args) throws Exception {
        Path root = Path.of(args.length > 0 ? args[0] : ".");
        String doc = Files.readString(root.resolve("../shared/DOC.md"), StandardCharsets.UTF_8);
        if (!allHold(doc)) {
            System.exit(1);
        }
    }
}

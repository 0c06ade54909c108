import java.io.IOException;
import java.nio.file.Path;

/** A test for each sentence of the document, at the boundary that it names and a step to each side of it. */
public final class BoundariesTest {
    public static void main(String[] args) throws IOException {
        Check check = new Check();
        Sentences document = new Sentences(Path.of("..", "shared", "DOC.md"), check);
        OverviewBoundaries.addTo(document);
        DieBoundaries.addTo(document);
        YearBoundaries.addTo(document);
        PaymentBoundaries.addTo(document);
        VaultBoundaries.addTo(document);
        ScriptBoundaries.addTo(document);
        UndoBoundaries.addTo(document);
        document.requireAll();
        check.end("BoundariesTest");
    }
}

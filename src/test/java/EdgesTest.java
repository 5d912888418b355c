import java.io.IOException;
import java.nio.file.Path;

/**
 * Each sentence of the Terms and of the promises 1 to 30 that names a boundary case has a test of its own, which quotes
 * it. It fails too if words of the document are quoted by no test, or a test quotes what the document does not say.
 */
public final class EdgesTest {
    public static void main(String[] args) throws IOException {
        Sentences.read(Path.of("../shared/DOC.md"));
        EdgesOfTides.look();
        EdgesOfDredging.look();
        EdgesOfRuns.look();
        EdgesOfCoasts.look();
        EdgesOfBuilding.look();
        EdgesOfRows.look();
        EdgesOfImages.look();
        EdgesOfRefusals.look();
        Sentences.end();
        Checks.end("EdgesTest");
    }
}

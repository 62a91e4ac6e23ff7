import java.nio.file.Path;

/**
 * Each sentence of the document that names a boundary case has a test of its own here. The tests stand
 * beside the sentences in the classes that are run; where a sentence holds more than one case, each part
 * of it has its own.
 */
public final class BoundaryTest {
    public static void main(String[] args) {
        LanguageBoundaries.run();
        SkyBoundaries.run();
        CallBoundaries.run();
        DayBoundaries.run();
        Sentences.dueInDocument(Path.of("..", "shared", "DOC.md"));
        Checks.end();
    }
}

import java.io.IOException;
import java.nio.file.Path;

/** Runs every test; exits with 1 if one fails. The arguments are the program's file and the document's. */
public final class AllTests {
    private AllTests() {
    }

    public static void main(String[] args) throws IOException {
        Due.document(Path.of(args.length > 1 ? args[1] : "../shared/DOC.md"));
        TermBounds.run();
        DayBounds.run();
        ShelfBounds.run();
        TextBounds.run();
        QuestionBounds.run();
        RefusalBounds.run();
        Due.endSentence();
        TownTest.run();
        DayTest.run();
        SharingTest.run();
        ClocksTest.run();
        ImageTest.run();
        ShelfTest.run();
        ReadmeTest.run();
        TextFuzz.run();
        DayFuzz.run();
        RunFuzz.run();
        AnyCallFuzz.run();
        FaceTest.run(args.length > 0 ? args[0] : "src/main/java/LookAtClock.java");
        if (!Due.close()) System.exit(1);
    }
}

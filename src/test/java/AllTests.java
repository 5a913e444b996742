import java.io.IOException;

/** Runs every test; exits with 1 if one fails. The argument is the program's file. */
public final class AllTests {
    private AllTests() {
    }

    public static void main(String[] args) throws IOException {
        TownTest.run();
        DayTest.run();
        SharingTest.run();
        ClocksTest.run();
        ImageTest.run();
        ShelfTest.run();
        TextFuzz.run();
        DayFuzz.run();
        AnyCallFuzz.run();
        FaceTest.run(args.length > 0 ? args[0] : "src/main/java/LookAtClock.java");
        if (!Due.close()) System.exit(1);
    }
}

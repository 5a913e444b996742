import java.io.IOException;
import java.nio.file.Files;
import java.nio.file.Path;

/** Counts calls whose answer is the due one, and prints every other with the sentence that it breaks. */
final class Due {
    private static final int PROMISES = 39;

    private static int passed = 0;
    private static int failed = 0;
    private static final boolean[] tested = new boolean[PROMISES + 1];
    private static String document = "";
    private static String sentence = "";
    private static int callsOfSentence = 1;
    private static int sentences = 0;

    private Due() {
    }

    /** The document whose sentences the tests name; without it the names are taken as they are. */
    static void document(Path file) throws IOException {
        if (Files.exists(file)) document = plain(Files.readString(file));
    }

    /** From here on the calls test one sentence (or a part of one), which stands in the document so. */
    static void says(String words) {
        endSentence();
        sentence = words;
        callsOfSentence = 0;
        sentences++;
        if (!document.isEmpty()) holds("the document says \"" + words + "\"", document.contains(plain(words)));
    }

    /** From here on the calls test no sentence of their own. */
    static void endSentence() {
        if (callsOfSentence == 0) holds("a call tests \"" + sentence + "\"", false);
        sentence = "";
        callsOfSentence = 1;
    }

    private static String plain(String text) {
        return text.replaceAll("\\s+", " ");
    }

    static void is(int promise, String call, long got, long want) {
        tested[promise] = true;
        callsOfSentence++;
        if (got == want) {
            passed++;
            return;
        }
        failed++;
        System.out.println("promise " + promise + ": " + call + " answered " + got + ", due is " + want);
        if (!sentence.isEmpty()) System.out.println("  as the document says: " + sentence);
    }

    static void holds(String rule, boolean held) {
        if (held) {
            passed++;
            return;
        }
        failed++;
        System.out.println("does not hold: " + rule);
    }

    static boolean close() {
        endSentence();
        for (int promise = 1; promise <= PROMISES; promise++) holds("promise " + promise + " has a test", tested[promise]);
        System.out.println("sentences with tests of their own: " + sentences);
        System.out.println("calls: " + passed + " passed, " + failed + " failed");
        return failed == 0 && passed > 0;
    }
}

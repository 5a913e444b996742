import java.io.IOException;
import java.nio.file.Files;
import java.nio.file.Path;
import java.util.Arrays;
import java.util.regex.Matcher;
import java.util.regex.Pattern;

/** Counts calls whose answer is the due one, and prints every other with the sentence that it breaks. */
final class Due {
    private static final int PROMISES = 39;

    private static int passed = 0;
    private static int failed = 0;
    private static final boolean[] tested = new boolean[PROMISES + 1];
    private static String document = "";
    private static boolean[] said = new boolean[0];
    private static String sentence = "";
    private static int callsOfSentence = 1;
    private static int sentences = 0;

    private Due() {
    }

    /** The document whose sentences the tests name; without it the names are taken as they are. */
    static void document(Path file) throws IOException {
        if (!Files.exists(file)) return;
        document = plain(Files.readString(file));
        said = new boolean[document.length()];
    }

    /** From here on the calls test one sentence (or a part of one), which stands in the document so. */
    static void says(String words) {
        endSentence();
        sentence = words;
        callsOfSentence = 0;
        sentences++;
        if (document.isEmpty()) return;
        if (!document.contains(plain(words))) notice("the document says no more: " + words);
        int size = plain(words).length();
        for (int i = document.indexOf(plain(words)); i >= 0; i = document.indexOf(plain(words), i + 1)) {
            for (int k = i; k < i + size; k++) said[k] = true;
        }
    }

    /** The document's numbers tell its bounds: each but those of its headings stands in a sentence that is tested. */
    private static void everyNumberIsSaid() {
        int start = document.indexOf("## Terms");
        int end = document.indexOf("## Not promised");
        Matcher heading = Pattern.compile("## Promise [0-9]+|======== [0-9]").matcher(document);
        while (heading.find()) Arrays.fill(said, heading.start(), heading.end(), true);
        for (int i = start; i >= 0 && i < end; i++) {
            if (said[i] || !Character.isDigit(document.charAt(i))) continue;
            notice("no sentence is tested with: " + document.substring(Math.max(0, i - 20), Math.min(i + 20, end)));
        }
    }

    /** Not a failure: a document that is worded anew does not make the program wrong, but its tests are to be read again. */
    private static void notice(String text) {
        System.out.println("notice: " + text);
    }

    /** From here on the calls test no sentence of their own. */
    static void endSentence() {
        if (callsOfSentence == 0) holds("a call tests \"" + sentence + "\"", false);
        sentence = "";
        callsOfSentence = 1;
    }

    private static String plain(String text) {
        return text.replaceAll("\\s+", " ");
    }

    static void is(int promise, String call, long got, long want) {
        tested[promise] = true;
        callsOfSentence++;
        if (got == want) {
            passed++;
            return;
        }
        failed++;
        System.out.println("promise " + promise + ": " + call + " answered " + got + ", due is " + want);
        if (!sentence.isEmpty()) System.out.println("  as the document says: " + sentence);
    }

    static void holds(String rule, boolean held) {
        if (held) {
            passed++;
            return;
        }
        failed++;
        System.out.println("does not hold: " + rule);
    }

    static boolean close() {
        endSentence();
        everyNumberIsSaid();
        for (int promise = 1; promise <= PROMISES; promise++) holds("promise " + promise + " has a test", tested[promise]);
        System.out.println("sentences with tests of their own: " + sentences);
        System.out.println("calls: " + passed + " passed, " + failed + " failed");
        return failed == 0 && passed > 0;
    }
}

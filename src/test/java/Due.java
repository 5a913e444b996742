/** Counts calls whose answer is the due one, and prints every other. */
final class Due {
    private static int passed = 0;
    private static int failed = 0;

    private Due() {
    }

    static void is(int promise, String call, long got, long want) {
        if (got == want) {
            passed++;
            return;
        }
        failed++;
        System.out.println("promise " + promise + ": " + call + " answered " + got + ", due is " + want);
    }

    static void holds(String rule, boolean held) {
        if (held) {
            passed++;
            return;
        }
        failed++;
        System.out.println("does not hold: " + rule);
    }

    static boolean close() {
        System.out.println("calls: " + passed + " passed, " + failed + " failed");
        return failed == 0 && passed > 0;
    }
}

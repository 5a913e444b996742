/** Puts texts and rows on the shelves of an object; shelf 7 is where texts are read from. */
final class Towns {
    static final int TEXT_SHELF = 7;

    private Towns() {
    }

    /** A new object with a town read from texts, each without fault. */
    static LookAtClock of(String... texts) {
        LookAtClock x = new LookAtClock();
        for (String text : texts) {
            int told = read(x, text);
            if (told < 0) throw new IllegalStateException(text + ": " + told);
        }
        return x;
    }

    static int read(LookAtClock x, String text) {
        putText(x, TEXT_SHELF, text);
        return x.town(TEXT_SHELF);
    }

    static void putText(LookAtClock x, int d, String text) {
        int[] bytes = new int[text.length()];
        for (int i = 0; i < bytes.length; i++) bytes[i] = text.charAt(i);
        putRow(x, d, 0, bytes);
    }

    static void putRow(LookAtClock x, int d, int sort, int... values) {
        if (x.row(d, sort, values.length) != 0) throw new IllegalStateException("no row of " + values.length);
        for (int i = 0; i < values.length; i++) x.put(d, i, values[i]);
    }

    /** An element as a caller meets it: a number, or 1000000001 and 1000000002 for the exceptions that are told. */
    static long elementOf(LookAtClock x, int d, int i) {
        try {
            return x.element(d, i);
        } catch (IllegalArgumentException e) {
            return 1000000001;
        } catch (IllegalStateException e) {
            return 1000000002;
        }
    }
}

/** Promises 18 to 22: learning, sharing, sellers. */
final class SharingTest {
    private SharingTest() {
    }

    static void run() {
        learning();
        learnRefusals();
        sharing();
        nines();
        buying();
        atRest();
    }

    private static void learn(LookAtClock x, String row, int many, int least, int greatest) {
        Due.is(18, row + ": how many", x.learn(0, 0), many);
        Due.is(18, row + ": the least", x.learn(0, 1), least);
        Due.is(18, row + ": the greatest", x.learn(0, 2), greatest);
    }

    private static void learning() {
        LookAtClock x = new LookAtClock();
        x.row(0, 2, 0);
        learn(x, "nothing told", 41, 0, 40);
        Towns.putRow(x, 0, 2, 0, 60, 40);
        learn(x, "an hour, the least", 1, 0, 0);
        Towns.putRow(x, 0, 2, 0, 60, 80);
        learn(x, "an hour, the greatest", 1, 40, 40);
        Towns.putRow(x, 0, 2, 0, 60, 81);
        learn(x, "too fast", 0, -4, -4);
        Towns.putRow(x, 0, 2, 0, 30, 30);
        learn(x, "half an hour, cut toward 0", 3, 19, 21);
        Towns.putRow(x, 0, 2, 0, 30, 30, 0, 60, 61);
        learn(x, "two", 1, 21, 21);
        Towns.putRow(x, 0, 2, 0, 30, 30, 0, 60, 62);
        learn(x, "two that differ", 0, -4, -4);
        Towns.putRow(x, 0, 2, 0, 719, Integer.MIN_VALUE);
        learn(x, "any number is thought", 0, -4, -4);
        Due.is(18, "the row stays", Towns.elementOf(x, 0, 1), 719);
    }

    private static void learnRefusals() {
        LookAtClock x = Towns.of("k00+0 0;");
        Due.is(18, "learn(-1, 0)", x.learn(-1, 0), -1);
        Due.is(18, "learn(8, 0)", x.learn(8, 0), -1);
        Due.is(18, "learn(0, 3)", x.learn(0, 3), -1);
        Due.is(18, "learn(0, -1)", x.learn(0, -1), -1);
        Due.is(18, "nothing held", x.learn(0, 0), -11);
        x.keep(0, 1, 0);
        Due.is(18, "a looker", x.learn(0, 0), -12);
        x.row(0, 1, 3);
        Due.is(18, "shorts", x.learn(0, 0), -12);
        x.row(0, 0, 4);
        Due.is(18, "bytes, no threes", x.learn(0, 0), -12);
        int[][] wrong = {{0}, {0, 60}, {0, 60, 60, 1}, {0, 0, 0}, {5, 4, 4}, {-1, 5, 5}, {0, 720, 720}, {720, 721, 0},
            {0, 60, 99, 3, 3, 3}};
        for (int i = 0; i < wrong.length; i++) {
            Towns.putRow(x, 0, 2, wrong[i]);
            Due.is(18, "not as told " + i, x.learn(0, i % 3), -13);
        }
    }

    private static void sharing() {
        LookAtClock x = new LookAtClock();
        int[] due = {12, 6, 4, 3, 3, 2, 2, 2, 2};
        for (int n = 1; n <= 9; n++) Due.is(19, "shared(0, " + n + ")", x.shared(0, n), due[n - 1]);
        Due.is(19, "one penny by nine", x.shared(60, 9), 1);
        Due.is(19, "shared(0, 0)", x.shared(0, 0), -1);
        Due.is(19, "shared(0, 10)", x.shared(0, 10), -1);
        Due.is(19, "shared(-1, 1)", x.shared(-1, 1), -1);
        Due.is(19, "shared(720, 1)", x.shared(720, 1), -1);
        x.law(2);
        Due.is(19, "by another law", x.shared(0, 5), 2);
    }

    private static void nines() {
        LookAtClock x = new LookAtClock();
        int[] due = {-4, 6, 4, 3, 3, 2, 2, 2, 2, 2, 2, 1, 1};
        for (int m = 1; m <= 13; m++) Due.is(20, "nine(0, " + m + ")", x.nine(0, m), due[m - 1]);
        Due.is(20, "nine for nine", x.nine(540, 1), 9);
        Due.is(20, "ten for nine", x.nine(600, 1), -4);
        Due.is(20, "nine(0, 20)", x.nine(0, 20), 1);
        Due.is(20, "nine(0, 0)", x.nine(0, 0), -1);
        Due.is(20, "nine(0, 21)", x.nine(0, 21), -1);
        Due.is(20, "nine(-1, 1)", x.nine(-1, 1), -1);
        Due.is(20, "nine(720, 1)", x.nine(720, 1), -1);
    }

    private static void buying() {
        LookAtClock x = new LookAtClock();
        Due.is(21, "less", x.buys(0, 3, 2, 3), 1);
        Due.is(21, "as much", x.buys(0, 3, 3, 3), 0);
        Due.is(21, "right ones", x.buys(0, 0, 11, 9), 1);
        Due.is(21, "far too wrong", x.buys(0, 60, 0, 9), 0);
        Due.is(21, "wrong for nothing", x.buys(0, 60, 0, 0), 1);
        Due.is(21, "at one o'clock", x.buys(60, 0, 0, 0), 1);
        Due.is(21, "for a penny", x.buys(60, 0, 1, 0), 0);
        int[][] wrong = {{-1, 0, 0, 0}, {720, 0, 0, 0}, {0, -1, 0, 0}, {0, 61, 0, 0}, {0, 0, -1, 0}, {0, 0, 13, 0},
            {0, 0, 0, -1}, {0, 0, 0, 10}};
        for (int[] w : wrong) Due.is(21, "a number out of range", x.buys(w[0], w[1], w[2], w[3]), -1);
        Due.is(21, "all at their greatest", x.buys(719, 60, 12, 9), 0);
    }

    private static void atRest() {
        LookAtClock x = new LookAtClock();
        Due.is(22, "rest(0, 3, 3)", x.rest(0, 3, 3), 2);
        Due.is(22, "rest(0, 0, 0)", x.rest(0, 0, 0), 11);
        Due.is(22, "rest(0, 11, 1)", x.rest(0, 11, 1), 0);
        Due.is(22, "rest(0, 12, 1)", x.rest(0, 12, 1), -4);
        Due.is(22, "rest(60, 60, 9)", x.rest(60, 60, 9), -4);
        x.law(1);
        Due.is(22, "12 at most", x.rest(59, 0, 0), 12);
        Due.is(22, "12, and no more", x.rest(59, 4, 1), 12);
        Due.is(22, "below that", x.rest(59, 5, 1), 11);
        int[][] wrong = {{-1, 0, 0}, {720, 0, 0}, {0, -1, 0}, {0, 61, 0}, {0, 0, -1}, {0, 0, 10}};
        for (int[] w : wrong) Due.is(22, "a number out of range", x.rest(w[0], w[1], w[2]), -1);
    }
}

/** What each call refuses, in the document's order of its refusals; a refused call changes nothing. */
final class RefusalBounds {
    private static final int LEAST = Integer.MIN_VALUE;
    private static final int GREATEST = Integer.MAX_VALUE;
    private static final int BELOW = -1000000001;
    private static final int[] NO_LOOKERS = {-1, 2, 6, LEAST, GREATEST};
    private static final int[] NO_WORKS = {-1, 2, 5, LEAST, GREATEST};
    private static final int[] NO_MINUTES = {-1, 720, LEAST, GREATEST};
    private static final int[] NO_SHELVES = {-1, 8, LEAST, GREATEST};

    private static final int BYTES = 0;
    private static final int SHORTS = 1;
    private static final int INTS = 2;
    private static final int TOLD = 3;
    private static final int WITHOUT_FIGURE = 4;
    private static final int NOTHING = 5;
    private static final int EMPTY = 6;

    private RefusalBounds() {
    }

    static void run() {
        Due.says("A refused call changes nothing.");
        Due.is(5, "what is compared differs", stateOf(full()).equals(stateOf(new LookAtClock())) ? 1 : 0, 0);
        town();
        pricesAndLaws();
        worksAndLookers();
        days();
        figures();
        prices();
        clocks();
        images();
        keeping();
        rows();
        putting();
        elements();
        copies();
        skills();
        tosses();
        firstOfSeveral();
        lessByABillion();
    }

    /** Two WORKS, two LOOKERS, a PLAN of two, law 1; all on SHELVES that can be; THE IMAGE of less. */
    private static LookAtClock full() {
        LookAtClock x = Towns.of("w100 10 5;");
        x.image();
        Towns.read(x, "w300 5 1;k65-20 9;k20+7 8;l1;p20;p60;");
        Towns.putRow(x, BYTES, 0, 1, 2, 3);
        Towns.putRow(x, SHORTS, 1, 4, 5, 6);
        Towns.putRow(x, INTS, 2, 7, 8, 9);
        x.keep(TOLD, 1, 0);
        x.keep(WITHOUT_FIGURE, 1, 1);
        x.row(EMPTY, 2, 0);
        Towns.putText(x, Towns.TEXT_SHELF, "l2;p61;l3;");
        return x;
    }

    /** All that can be asked, and once more behind restore, which tells THE IMAGE. */
    private static String stateOf(LookAtClock x) {
        StringBuilder state = new StringBuilder();
        addTown(state, x);
        for (int d = 0; d < 8; d++) {
            state.append(x.skill(d)).append(' ').append(x.toss(d)).append(' ');
            long element = 0;
            for (int i = 0; i < 10 && element != 1000000002; i++) {
                element = Towns.elementOf(x, d, i);
                state.append(element).append(' ');
            }
        }
        state.append(x.restore()).append(' ');
        addTown(state, x);
        return state.toString();
    }

    private static void addTown(StringBuilder state, LookAtClock x) {
        for (int what = 0; what < 5; what++) state.append(x.count(what)).append(' ');
        for (int work = 0; work < 3; work++) {
            for (int what = 0; what < 3; what++) state.append(x.work(work, what)).append(' ');
        }
        for (int k = 0; k < 3; k++) {
            for (int what = 0; what < 4; what++) state.append(x.looker(k, what)).append(' ');
            state.append(x.drift(k)).append(' ');
            for (int i = 0; i < 4; i++) state.append(x.look(k, i)).append(' ');
        }
    }

    private static void refused(int promise, long due, String call, int... numbers) {
        LookAtClock x = full();
        String told = Calls.told(call, numbers);
        Due.is(promise, told, Calls.answer(x, call, numbers), due);
        Due.is(promise, "what stands behind " + told, stateOf(x).equals(stateOf(full())) ? 1 : 0, 1);
    }

    /** One number of a call is each of those that are out of range. */
    private static void refusedAt(int place, int[] wrong, int promise, long due, String call, int... numbers) {
        for (int number : wrong) {
            int[] with = numbers.clone();
            with[place] = number;
            refused(promise, due, call, with);
        }
    }

    private static int[] outOf(int least, int greatest) {
        return new int[] {least - 1, greatest + 1, LEAST, GREATEST};
    }

    private static void town() {
        Due.says("The text in SHELF d: how many STATEMENTS; the FAULT. -1, -11, -12 (no ROW of bytes).");
        refusedAt(0, NO_SHELVES, 2, -1, "town", 0);
        refused(2, -11, "town", NOTHING);
        refusedAt(0, new int[] {SHORTS, INTS, TOLD, WITHOUT_FIGURE, EMPTY}, 2, -12, "town", 0);
        refused(2, -2007, "town", Towns.TEXT_SHELF);
        refused(2, -1000, "town", BYTES);
    }

    private static void pricesAndLaws() {
        Due.says("PRICE at a MINUTE. -1.");
        refusedAt(0, NO_MINUTES, 3, -1, "price", 0);
        Due.says("THE LAW becomes n: what it was. -1.");
        refusedAt(0, outOf(0, 2), 4, -1, "law", 0);
    }

    private static void worksAndLookers() {
        Due.says("Of a WORK: AT (what 0), WALK (1), LATE (2). -1.");
        refusedAt(0, NO_WORKS, 5, -1, "work", 0, 0);
        refusedAt(1, outOf(0, 2), 5, -1, "work", 0, 0);
        Due.says("Of a LOOKER: KIND (what 0), FIGURE (1), WAKE (2), EARLY (3). -1.");
        refusedAt(0, NO_LOOKERS, 6, -1, "looker", 0, 0);
        refusedAt(1, outOf(0, 3), 6, -1, "looker", 0, 0);
        Due.says("DRIFT. -1000000001.");
        refusedAt(0, NO_LOOKERS, 7, BELOW, "drift", 0);
        Due.says("What one THINKS at a MINUTE, its latest LOOK having been at one no later. -1000000001.");
        refusedAt(0, NO_LOOKERS, 8, BELOW, "thinks", 0, 5, 5);
        refusedAt(1, NO_MINUTES, 8, BELOW, "thinks", 0, 5, 5);
        refusedAt(2, NO_MINUTES, 8, BELOW, "thinks", 0, 5, 5);
        refused(8, BELOW, "thinks", 0, 6, 5);
        refused(8, BELOW, "thinks", 0, 719, 0);
        refused(8, BELOW, "thinks", 0, -2, -1);
        refused(8, BELOW, "thinks", 0, 720, 720);
        Due.is(8, "as late", full().thinks(0, 5, 5), 5);
        Due.is(8, "at both ends", full().thinks(0, 0, 719), 480);
    }

    private static void days() {
        Due.says("A DAY of one: COST (what 0), LOOKS (1; but WAKE), minutes LATE (2), IDLE (3), what was paid (4). -1.");
        refusedAt(0, NO_LOOKERS, 9, -1, "day", 0, 0);
        refusedAt(1, outOf(0, 4), 9, -1, "day", 0, 0);
        Due.says("The i-th LOOK: its MINUTE; -4. -1.");
        refusedAt(0, NO_LOOKERS, 10, -1, "look", 0, 0);
        refusedAt(1, new int[] {2, 3, 12, 13, 14, 100, GREATEST}, 10, -4, "look", 0, 0);
        refusedAt(1, new int[] {-1, LEAST}, 10, -1, "look", 0, 0);
        Due.is(10, "the first", full().look(0, 0), 20);
        Due.is(10, "the last", full().look(0, 1), 60);
        Due.says("When one comes to a WORK (719 and WALK at most); -4 it is left out. -1.");
        refusedAt(0, NO_LOOKERS, 11, -1, "comes", 0, 0);
        refusedAt(1, NO_WORKS, 11, -1, "comes", 0, 0);
        Due.is(11, "at most", Towns.of("w719 59 0;k00-20 719;").comes(0, 0), 719 + 59);
        Due.is(11, "left out", Towns.of("w718 59 0;k00-20 719;").comes(0, 0), -4);
    }

    private static void figures() {
        Due.says("The FIGURE that a BEST of one's DRIFT and WAKE would take. -1.");
        refusedAt(0, NO_LOOKERS, 12, -1, "bestFigure", 0);
        Due.says("ALWAYS EARLY; -4. -1.");
        refusedAt(0, NO_LOOKERS, 13, -1, "always", 0);
        Due.says("PAYS. -1000000001.");
        refusedAt(0, NO_LOOKERS, 14, BELOW, "pays", 0);
        Due.says("BEST KIND. -1.");
        refusedAt(0, NO_LOOKERS, 15, -1, "bestKind", 0);
        Due.says("EDGE; -4. -1.");
        refusedAt(0, NO_LOOKERS, 16, -1, "edge", 0, 0);
        refusedAt(1, NO_WORKS, 16, -1, "edge", 0, 0);
    }

    private static void prices() {
        Due.says("WAITS by a PRICE (0 .. 20); -4. -1.");
        refusedAt(0, NO_MINUTES, 17, -1, "waits", 0, 5);
        refusedAt(1, outOf(0, 20), 17, -1, "waits", 0, 5);
        Due.is(17, "by the least PRICE", full().waits(0, 0), -4);
        Due.is(17, "by the greatest PRICE", full().waits(0, 20), 0);
        Due.says("LEARN by the ROW in SHELF d: how many (what 0); the least (1), the greatest (2), 20 more each; -4. "
            + "-1, -11, -12 (no ROW of ints), -13 (no threes, not as told).");
        refusedAt(0, NO_SHELVES, 18, -1, "learn", 0, 0);
        refusedAt(1, outOf(0, 2), 18, -1, "learn", EMPTY, 0);
        refused(18, -11, "learn", NOTHING, 0);
        refusedAt(0, new int[] {BYTES, SHORTS, TOLD, WITHOUT_FIGURE, Towns.TEXT_SHELF}, 18, -12, "learn", 0, 0);
        Due.is(18, "a ROW of none", full().learn(EMPTY, 0), 41);
        Due.is(18, "7, 8: 9", full().learn(INTS, 0), 0);
        Due.is(18, "7, 8: 9, the least", full().learn(INTS, 1), -4);
        Due.is(18, "7, 8: 9, the greatest", full().learn(INTS, 2), -4);
        Due.says("SHARED. -1.");
        refusedAt(0, NO_MINUTES, 19, -1, "shared", 0, 5);
        refusedAt(1, outOf(1, 9), 19, -1, "shared", 0, 5);
        Due.says("NINE by m (1 .. 20): how many; -4 (more than 9). -1.");
        refusedAt(0, NO_MINUTES, 20, -1, "nine", 0, 5);
        refusedAt(1, outOf(1, 20), 20, -1, "nine", 0, 5);
        refused(20, -4, "nine", 0, 1);
        Due.says("BUYS: 1, 0. -1.");
        refusedAt(0, NO_MINUTES, 21, -1, "buys", 0, 5, 5, 5);
        refusedAt(1, outOf(0, 60), 21, -1, "buys", 0, 5, 5, 5);
        refusedAt(2, outOf(0, 12), 21, -1, "buys", 0, 5, 5, 5);
        refusedAt(3, outOf(0, 9), 21, -1, "buys", 0, 5, 5, 5);
        Due.says("AT REST; -4. -1.");
        refusedAt(0, NO_MINUTES, 22, -1, "rest", 0, 5, 5);
        refusedAt(1, outOf(0, 60), 22, -1, "rest", 0, 5, 5);
        refusedAt(2, outOf(0, 9), 22, -1, "rest", 0, 5, 5);
    }

    private static void clocks() {
        Due.says("MINUTES at which the other one is cheaper.");
        Due.is(24, "otherCheaper()", full().otherCheaper(), 60);
        Due.is(24, "of an empty town", new LookAtClock().otherCheaper(), 60);
        Due.says("`int sum()`: SUM.");
        Due.is(26, "sum()", full().sum(), full().day(0, 0) + full().day(1, 0));
        Due.is(26, "of an empty town", new LookAtClock().sum(), 0);
        Due.says("`int order()`: ORDER (digits).");
        Due.is(27, "order()", full().order(), full().day(0, 0) <= full().day(1, 0) ? 10 : 1);
        Due.is(27, "of an empty town", new LookAtClock().order(), 0);
        Due.says("The cheaper PRICE of TWO CLOCKS. -1.");
        refusedAt(0, NO_MINUTES, 23, -1, "cheaper", 0);
        Due.says("BY LAW. -1.");
        refusedAt(0, NO_LOOKERS, 25, -1, "byLaw", 0, 0);
        refusedAt(1, outOf(0, 2), 25, -1, "byLaw", 0, 0);
        Due.says("SEEDED: all (what 0), the greatest (1), how many LATE (2). -1.");
        refusedAt(0, NO_LOOKERS, 28, -1, "seeded", 0, 1, 1, 0);
        refusedAt(1, outOf(1, 20), 28, -1, "seeded", 0, 1, 1, 0);
        refusedAt(3, outOf(0, 2), 28, -1, "seeded", 0, 1, 1, 0);
        Due.says("JUDGED of one by the ROW in SHELF d; -4. -1, -11, -12 (no ROW).");
        refusedAt(0, NO_LOOKERS, 29, -1, "judge", 0, BYTES);
        refusedAt(1, NO_SHELVES, 29, -1, "judge", 0, BYTES);
        refused(29, -11, "judge", 0, NOTHING);
        refused(29, -12, "judge", 0, TOLD);
        refused(29, -12, "judge", 0, WITHOUT_FIGURE);
    }

    private static void images() {
        Due.says("THE IMAGE is taken: how many LOOKERS.");
        LookAtClock town = new LookAtClock();
        for (int k = 0; k < 6; k++) {
            Due.is(30, "of " + k, town.image(), k);
            Towns.read(town, "k00+0 0;");
        }
        Due.is(30, "of six", town.image(), 6);
        Due.is(31, "six again", town.restore(), 6);
        Due.says("THE IMAGE is RESTORED: how many LOOKERS. -3: there is none.");
        LookAtClock x = Towns.of("w100 10 5;k22-20 0;l2;");
        Due.is(31, "there is none", x.restore(), -3);
        Due.is(32, "the WORK stays", x.count(0), 1);
        Due.is(32, "the LOOKER stays", x.count(1), 1);
        Due.is(32, "the law stays", x.count(4), 2);
        Due.is(30, "THE IMAGE is taken", x.image(), 1);
        Due.is(31, "there is one", x.restore(), 1);
        Due.says("0 WORKS, 1 LOOKERS, 2 MINUTES of the PLAN, 3 all WALKS, 4 THE LAW; -1 for others.");
        refusedAt(0, outOf(0, 4), 32, -1, "count", 0);
        int[] due = {2, 2, 2, 15, 1};
        for (int what = 0; what < 5; what++) Due.is(32, "count(" + what + ")", full().count(what), due[what]);
    }

    private static void keeping() {
        Due.says("SHELF d gets: what = 0 nothing (the others do not matter); 1 LOOKER k: 0. -1.");
        refusedAt(0, NO_SHELVES, 33, -1, "keep", 0, 0, 0);
        refusedAt(0, NO_SHELVES, 33, -1, "keep", 0, 1, 0);
        refusedAt(1, outOf(0, 1), 33, -1, "keep", 0, 1, 0);
        for (int d = 0; d < 8; d++) refusedAt(2, NO_LOOKERS, 33, -1, "keep", d, 1, 0);
        for (int k : NO_LOOKERS) {
            LookAtClock x = full();
            Due.is(33, "keep(0, 0, " + k + ")", x.keep(BYTES, 0, k), 0);
            Due.is(38, "nothing", x.skill(BYTES), -11);
            Due.is(33, "keep(3, 0, " + k + ")", x.keep(TOLD, 0, k), 0);
            Due.is(38, "nothing", x.skill(TOLD), -11);
        }
        Due.is(33, "nobody yet", new LookAtClock().keep(0, 1, 0), -1);
    }

    private static void rows() {
        Due.says("SHELF d gets a ROW of a SORT: 0. -1 (n above 100); -14.");
        refusedAt(0, NO_SHELVES, 34, -1, "row", 0, 0, 1);
        refusedAt(0, NO_SHELVES, 34, -1, "row", 0, 0, -1);
        refusedAt(1, outOf(0, 2), 34, -1, "row", 0, 0, 1);
        refusedAt(1, outOf(0, 2), 34, -1, "row", 0, 0, -1);
        refusedAt(2, new int[] {101, GREATEST}, 34, -1, "row", 0, 0, 0);
        refusedAt(2, new int[] {101, GREATEST}, 34, -1, "row", NOTHING, 2, 0);
        for (int d = 0; d < 8; d++) refusedAt(2, new int[] {-1, LEAST}, 34, -14, "row", d, 2, 0);
    }

    private static void putting() {
        Due.says("Element i of the ROW becomes v: 0. -1, -11, -12, -13.");
        refusedAt(0, NO_SHELVES, 35, -1, "put", 0, 0, 99);
        refused(35, -11, "put", NOTHING, 0, 99);
        refused(35, -11, "put", NOTHING, -1, 99);
        refused(35, -12, "put", TOLD, 0, 99);
        refused(35, -12, "put", WITHOUT_FIGURE, 100, 99);
        refusedAt(1, new int[] {-1, 3, 99, 100, LEAST, GREATEST}, 35, -13, "put", BYTES, 0, 99);
        refusedAt(1, new int[] {-1, 3, 99, 100, LEAST, GREATEST}, 35, -13, "put", INTS, 0, 99);
        refused(35, -13, "put", EMPTY, 0, 99);
    }

    private static void elements() {
        Due.says("Element i of the ROW. IllegalArgumentException: no such SHELF; IllegalStateException: no ROW, no such place.");
        refusedAt(0, NO_SHELVES, 36, Calls.BAD_ARGUMENT, "element", 0, 0);
        refusedAt(0, NO_SHELVES, 36, Calls.BAD_ARGUMENT, "element", 0, -1);
        refused(36, Calls.BAD_STATE, "element", NOTHING, 0);
        refused(36, Calls.BAD_STATE, "element", TOLD, 0);
        refusedAt(1, new int[] {-1, 3, 99, 100, LEAST, GREATEST}, 36, Calls.BAD_STATE, "element", SHORTS, 0);
        refused(36, Calls.BAD_STATE, "element", EMPTY, 0);
        for (int i = 0; i < 3; i++) Due.is(36, "element(1, " + i + ")", Towns.elementOf(full(), SHORTS, i), 4 + i);
    }

    private static void copies() {
        Due.says("n elements of the ROW in SHELF d from i on come to that in SHELF e from j on: n. "
            + "-1, -11 (either), -12 (no ROWS of one SORT), -13.");
        refusedAt(0, NO_SHELVES, 37, -1, "copy", 0, 0, 0, 0, 1);
        refusedAt(2, NO_SHELVES, 37, -1, "copy", 0, 0, 0, 0, 1);
        refusedAt(0, NO_SHELVES, 37, -1, "copy", 0, 0, NOTHING, 0, 1);
        refusedAt(2, NO_SHELVES, 37, -1, "copy", NOTHING, 0, 0, 0, 1);
        refused(37, -11, "copy", NOTHING, 0, BYTES, 0, 1);
        refused(37, -11, "copy", BYTES, 0, NOTHING, 0, 1);
        refused(37, -11, "copy", NOTHING, 0, NOTHING, 0, 0);
        refused(37, -11, "copy", TOLD, 0, NOTHING, 0, 1);
        refused(37, -11, "copy", NOTHING, 0, TOLD, 0, 1);
        refused(37, -12, "copy", TOLD, 0, BYTES, 0, 1);
        refused(37, -12, "copy", BYTES, 0, TOLD, 0, 1);
        refused(37, -12, "copy", TOLD, 0, TOLD, 0, 1);
        refused(37, -12, "copy", BYTES, 0, SHORTS, 0, 1);
        refused(37, -12, "copy", SHORTS, 0, INTS, 0, 1);
        refused(37, -12, "copy", INTS, 0, BYTES, -1, -1);
        refused(37, -12, "copy", EMPTY, 0, BYTES, 0, 0);
        int[][] places = {{-1, 0, 1}, {0, -1, 1}, {3, 0, 1}, {0, 3, 1}, {0, 0, 4}, {1, 0, 3}, {0, 1, 3}, {2, 2, 2}, {0, 0, -1}, {1, 1, LEAST},
            {GREATEST, 0, 1}, {0, GREATEST, 1}, {2, 2, GREATEST}, {LEAST, 0, 1}, {0, LEAST, 1}, {-1, -1, 0}, {4, 0, 0}, {0, 4, 0},
            {GREATEST, GREATEST, 2}, {-1, 0, 2}};
        for (int[] p : places) {
            refused(37, -13, "copy", INTS, p[0], INTS, p[1], p[2]);
            refused(37, -13, "copy", BYTES, p[0], BYTES, p[1], p[2]);
        }
        refused(37, -13, "copy", INTS, 0, EMPTY, 0, 1);
        refused(37, -13, "copy", EMPTY, 0, INTS, 0, 1);
        Due.is(37, "none", full().copy(INTS, 0, EMPTY, 0, 0), 0);
        Due.is(37, "all", full().copy(INTS, 0, INTS, 0, 3), 3);
        copied(0, 1, 2, new int[] {7, 7, 8});
        copied(1, 0, 2, new int[] {8, 9, 9});
        copied(2, 0, 1, new int[] {9, 8, 9});
        copied(0, 0, 3, new int[] {7, 8, 9});
        copied(3, 3, 0, new int[] {7, 8, 9});
        LookAtClock x = full();
        x.row(NOTHING, 2, 4);
        Due.is(37, "to another SHELF", x.copy(INTS, 0, NOTHING, 1, 3), 3);
        for (int i = 0; i < 4; i++) Due.is(37, "element(5, " + i + ")", Towns.elementOf(x, NOTHING, i), i == 0 ? 0 : 6 + i);
        for (int i = 0; i < 3; i++) Due.is(37, "element(2, " + i + ")", Towns.elementOf(x, INTS, i), 7 + i);
    }

    /** Within the ROW of 7, 8, 9: what it holds then. */
    private static void copied(int from, int to, int n, int[] due) {
        LookAtClock x = full();
        Due.is(37, Calls.told("copy", INTS, from, INTS, to, n), x.copy(INTS, from, INTS, to, n), n);
        for (int i = 0; i < due.length; i++) Due.is(37, "element(2, " + i + ")", Towns.elementOf(x, INTS, i), due[i]);
    }

    private static void skills() {
        Due.says("SKILL of the LOOKER on SHELF d. -1, -11, -12 (a ROW).");
        refusedAt(0, NO_SHELVES, 38, -1, "skill", 0);
        refused(38, -11, "skill", NOTHING);
        refusedAt(0, new int[] {BYTES, SHORTS, INTS, EMPTY, Towns.TEXT_SHELF}, 38, -12, "skill", 0);
    }

    private static void tosses() {
        Due.says("The FAILURE of the LOOKER on SHELF d is thrown, and caught: its number; of BEST ones 100 more; "
            + "of SELLER ones 200 plus their SKILL, in place of all that (its number, too). "
            + "-1, -11, -12 (a ROW); -15: TOLD ones, and any with FIGURE 0, have none.");
        refusedAt(0, NO_SHELVES, 39, -1, "toss", 0);
        refused(39, -11, "toss", NOTHING);
        refusedAt(0, new int[] {BYTES, SHORTS, INTS, EMPTY, Towns.TEXT_SHELF}, 39, -12, "toss", 0);
        refused(39, -15, "toss", TOLD);
        refused(39, -15, "toss", WITHOUT_FIGURE);
        int[] ofFigureNine = {0, 0, 0, 0, 100, 0, -15, 254};
        for (int kind = 0; kind < 8; kind++) {
            LookAtClock x = new LookAtClock();
            for (int k = 0; k < 6; k++) Towns.read(x, "k" + kind + "9+0 0;");
            for (int k = 0; k < 6; k++) {
                x.keep(k, 1, k);
                int due = kind < 6 ? ofFigureNine[kind] + k : ofFigureNine[kind];
                Due.is(39, "KIND " + kind + ", LOOKER " + k, x.toss(k), due);
            }
        }
    }

    private static void firstOfSeveral() {
        Due.says("Answers of several refusals are the first one as they are told at the call");
        refused(18, -1, "learn", NOTHING, 3);
        refused(18, -1, "learn", TOLD, -1);
        refused(18, -1, "learn", INTS, 3);
        refused(18, -12, "learn", Towns.TEXT_SHELF, 0);
        refused(29, -1, "judge", 2, NOTHING);
        refused(29, -1, "judge", 2, TOLD);
        refused(29, -1, "judge", 2, 8);
        refused(34, -1, "row", 0, 3, -1);
        refused(34, -1, "row", 8, 0, -1);
        refused(34, -1, "row", 0, 3, 101);
        refused(35, -1, "put", 8, -1, 0);
        refused(35, -11, "put", NOTHING, 100, 0);
        refused(35, -12, "put", TOLD, 100, 0);
        refused(36, Calls.BAD_ARGUMENT, "element", 8, 100);
        refused(37, -1, "copy", NOTHING, 0, 8, -1, -1);
        refused(37, -11, "copy", TOLD, -1, NOTHING, -1, -1);
        refused(37, -12, "copy", TOLD, -1, BYTES, -1, -1);
        refused(37, -12, "copy", BYTES, 9, SHORTS, 9, 9);
        refused(9, -1, "day", 2, 5);
        refused(10, -1, "look", 2, 99);
        refused(17, -1, "waits", 719, 21);
        refused(20, -1, "nine", 720, 1);
    }

    private static void lessByABillion() {
        Due.says("-1 no such thing, a number out of range, or not as told; -2 no room; -3 it can't be as things stand; -4 none; "
            + "-11 to -15; where numbers that may be below 0 are answered (told at the call), 1000000000 less.");
        LookAtClock x = Towns.of("w100 10 5;k00-1 0;k20+0 0;");
        Due.is(7, "a DRIFT of -1", x.drift(0), -1);
        Due.is(7, "no such LOOKER", x.drift(2), BELOW);
        Due.is(14, "a COST more by 1", x.pays(1), -1);
        Due.is(14, "no such LOOKER", x.pays(2), BELOW);
        Due.is(8, "no such LOOKER", x.thinks(2, 0, 0), BELOW);
        Due.is(6, "no such LOOKER, where none is below 0", x.looker(2, 0), -1);
        Due.is(31, "as things stand", x.restore(), -3);
        Due.is(10, "none", x.look(0, 0), -4);
    }
}

/** The bounds that the document names for what is asked of days, prices, clocks, seeds, rows; a test for each sentence. */
final class QuestionBounds {
    private static final int LEAST = Integer.MIN_VALUE;
    private static final int GREATEST = Integer.MAX_VALUE;

    private QuestionBounds() {
    }

    static void run() {
        always();
        pays();
        bestKind();
        waits();
        edge();
        learn();
        learnAsTold();
        shared();
        nine();
        sellers();
        buys();
        atRest();
        twoClocks();
        otherCheaper();
        byLaw();
        sum();
        order();
        seeded();
        seededInMind();
        heldDrifts();
        lateDays();
        draws();
        judgedInOrder();
        judgedSkips();
        judgedShort();
        judgedLong();
        image();
        shelvesStay();
        manyCalls();
    }

    private static void always() {
        Due.says("ALWAYS EARLY of one: the least FIGURE (0 .. 9) by which a NEVER of its DRIFT and WAKE is nowhere LATE; -4.");
        // By 9 it goes when it thinks 38, at 56: 56 - 18; by 8 when it thinks 40, at 59.
        Due.is(13, "the greatest, come at AT", Towns.of("w56 0 5;k00-20 0;").always(0), 9);
        // By 9 it goes when it thinks 39, at 58: 58 - 19.
        Due.is(13, "none, by one minute", Towns.of("w57 0 5;k00-20 0;").always(0), -4);
        Due.is(13, "none, though it costs nothing", Towns.of("w57 0 0;k00-20 0;").always(0), -4);
        Due.is(13, "the least", Towns.of("w57 0 5;k09+0 0;k09+20 0;").always(0), 0);
        Due.is(13, "the second is LATE", Towns.of("w10 0 1;w57 0 1;k00-20 0;").always(0), -4);
        Due.is(13, "the first is LATE", Towns.of("w57 0 1;w58 0 1;k00-20 0;").always(0), -4);
        Due.is(13, "all left out", Towns.of("w57 0 5;k00-20 58;").always(0), 0);
        Due.is(13, "no WORKS", Towns.of("k79-20 0;").always(0), 0);
        // As a SELLER, a TOLD, a BEST of FIGURE 9 it is asked for all the same.
        LookAtClock x = Towns.of("w56 0 5;p50;k79-20 0;k69-20 0;k49-20 0;k19-20 0;");
        for (int k = 0; k < 4; k++) Due.is(13, "always(" + k + ")", x.always(k), 9);
    }

    private static void pays() {
        Due.says("PAYS: COST of its DAY as a LOOKER less its COST as it is (may be below 0).");
        LookAtClock x = Towns.of("w100 10 5;k20+0 0;k00-20 0;k46-20 0;k00+0 0;");
        Due.is(14, "below 0", x.pays(0), -1);
        Due.is(14, "nothing", x.pays(1), 0);
        Due.is(14, "above 0", x.pays(2), 220 - 1);
        Due.is(14, "nothing to pay", x.pays(3), 0);
        Due.is(14, "nobody", x.pays(4), -1000000001);
    }

    private static void bestKind() {
        Due.says("BEST KIND: the KIND (0 .. 7) by which its DAY (FIGURE, DRIFT, WAKE as they are) costs least; of several the least.");
        Due.is(15, "all alike", Towns.of("k79+0 0;").bestKind(0), 0);
        // Up at 0, fast: as a LOOKER, a NEVER it is early; they pay nothing.
        Due.is(15, "of several the least", Towns.of("w100 10 5;k79+20 0;").bestKind(0), 0);
        Due.is(15, "a NEVER alone", Towns.of("w56 0 5;k09-20 0;").bestKind(0), 1);
        // By FIGURE 9 a CLOCK looks at 134, for 2, as a CHEAP and a BEST; a SHARE for 1, a SELLER for nothing.
        Due.is(15, "the greatest", Towns.of("w135 0 9;k09-20 0;").bestKind(0), 7);
        // By FIGURE 1 a CHEAP and a SELLER look no more at 2 o'clock; a CLOCK is late, a BEST isn't.
        Due.is(15, "a BEST alone", Towns.of("w135 0 9;k01-20 0;").bestKind(0), 4);
        // At 134 and 6 o'clock's price a SELLER pays 4, a SHARE 3.
        Due.is(15, "a SHARE alone", Towns.of("l2;w135 0 9;k09-20 0;").bestKind(0), 5);
        // At 600 the PLAN lets it see the time; without, it goes at 719.
        Due.is(15, "a TOLD alone", Towns.of("w600 0 9;p600;k00-20 0;").bestKind(0), 6);
    }

    private static void waits() {
        Due.says("WAITS: how many minutes from a MINUTE on till the PRICE is no more than told, at the least (that MINUTE too; 719 the last); -4.");
        LookAtClock x = new LookAtClock();
        Due.is(17, "that MINUTE too", x.waits(60, 1), 0);
        Due.is(17, "no more than told: less", x.waits(60, 20), 0);
        Due.is(17, "a minute", x.waits(59, 1), 1);
        Due.is(17, "an hour", x.waits(0, 1), 60);
        Due.is(17, "an hour, one less than it is", x.waits(0, 11), 60);
        Due.is(17, "none, just over", x.waits(120, 1), -4);
        Due.is(17, "the last of it", x.waits(119, 1), 0);
        Due.is(17, "719 itself", x.waits(719, 11), 0);
        Due.is(17, "no day behind 719", x.waits(719, 10), -4);
        Due.is(17, "for nothing", x.waits(60, 0), -4);
        Towns.read(x, "l1;");
        Due.is(17, "tens go ahead of an hour", x.waits(110, 2), 10);
        Due.is(17, "719 by tens", x.waits(719, 16), 0);
        Due.is(17, "719 by tens, dear", x.waits(719, 15), -4);
        Due.is(17, "never before 719", x.waits(670, 11), -4);
        Towns.read(x, "l2;");
        Due.is(17, "by law 2", x.waits(719, 6), 0);
        Due.is(17, "by law 2, dear", x.waits(0, 5), -4);
    }

    private static void edge() {
        Due.says("EDGE: the least FIGURE (0 .. 9) by which a CLOCK of one's DRIFT and WAKE does not come to a WORK behind its AT "
            + "(0, if it is left out); -4.");
        // By 9 it looks when it thinks 92, at 137: 137 - 45; it is there.
        Due.is(16, "the greatest, come at AT", Towns.of("w137 0 9;k00-20 0;").edge(0, 0), 9);
        // By 9 it looks when it thinks 93, at 139: 139 - 46.
        Due.is(16, "none, by one minute", Towns.of("w138 0 9;k00-20 0;").edge(0, 0), -4);
        Due.is(16, "none, though it costs nothing", Towns.of("w138 0 0;k00-20 0;").edge(0, 0), -4);
        Due.is(16, "one between", Towns.of("w100 10 5;k00-20 0;").edge(0, 0), 6);
        Due.is(16, "the least", Towns.of("w100 10 5;k09+0 0;").edge(0, 0), 0);
        LookAtClock x = Towns.of("w10 0 1;w138 0 1;w719 0 1;k00-20 0;k00+0 138;k00+0 139;k00+0 719;");
        Due.is(16, "left out", x.edge(2, 1), 0);
        Due.is(16, "left out, the first", x.edge(1, 0), 0);
        Due.is(16, "AT is WAKE", x.edge(1, 1), 0);
        Due.is(16, "at 719 in any case", x.edge(3, 2), 0);
        Due.is(16, "of a WORK to which none comes in time", x.edge(0, 0), -4);
        Due.is(16, "of another behind it", x.edge(0, 2), 0);
        LookAtClock y = Towns.of("w137 0 9;p1;k79-20 0;k69-20 0;k49-20 0;k19-20 0;");
        for (int k = 0; k < 4; k++) Due.is(16, "of any KIND", y.edge(k, 0), 9);
    }

    private static void learn() {
        Due.says("DRIFTS (-20 .. 20) by which all of them would be so: how many; the least; the greatest; -4 none.");
        LookAtClock x = new LookAtClock();
        int[][] rows = {{}, {0, 60, 40}, {0, 60, 80}, {0, 60, 39}, {0, 60, 81}, {0, 1, 1}, {0, 3, 3}, {0, 3, 2}, {0, 3, 4}, {0, 30, 30},
            {0, 60, 60, 0, 60, 61}, {0, 719, 480}, {0, 719, 958}, {0, 719, 719}, {0, 3, 3, 0, 4, 5}};
        int[][] due = {{41, 0, 40}, {1, 0, 0}, {1, 40, 40}, {0, -4, -4}, {0, -4, -4}, {41, 0, 40}, {39, 1, 39}, {1, 0, 0}, {1, 40, 40},
            {3, 19, 21}, {0, -4, -4}, {1, 0, 0}, {1, 40, 40}, {1, 20, 20}, {5, 35, 39}};
        for (int i = 0; i < rows.length; i++) {
            Towns.putRow(x, 0, 2, rows[i]);
            for (int what = 0; what < 3; what++) Due.is(18, "row " + i + ", what " + what, x.learn(0, what), due[i][what]);
        }
        x.row(0, 2, 99);
        for (int i = 0; i < 33; i++) {
            x.put(0, 3 * i + 1, 60);
            x.put(0, 3 * i + 2, 60);
        }
        Due.is(18, "33 of them", x.learn(0, 1), 20);
        x.put(0, 98, 61);
        Due.is(18, "the last of 33 differs", x.learn(0, 0), 0);
    }

    private static void learnAsTold() {
        Due.says("LEARN: a ROW of ints, by threes a MINUTE of a LOOK, a later MINUTE, what was THOUGHT at that one (any number)");
        LookAtClock x = new LookAtClock();
        int[][] wrong = {{0}, {0, 1}, {0, 1, 1, 0}, {0, 0, 0}, {1, 0, 0}, {-1, 0, 0}, {0, 720, 720}, {720, 721, 721}, {719, 719, 719},
            {719, 720, 720}, {LEAST, GREATEST, 0}, {0, LEAST, 0}, {0, 1, 1, 1, 1, 1}, {5, 5, 5, 0, 1, 1}};
        for (int i = 0; i < wrong.length; i++) {
            Towns.putRow(x, 0, 2, wrong[i]);
            Due.is(18, "wrong " + i, x.learn(0, 0), -13);
        }
        int[][] right = {{0, 1, LEAST}, {718, 719, GREATEST}, {0, 719, -1}};
        for (int i = 0; i < right.length; i++) {
            Towns.putRow(x, 0, 2, right[i]);
            Due.is(18, "right " + i, x.learn(0, 0), 0);
        }
        x.row(0, 2, 100);
        Due.is(18, "a hundred are no threes", x.learn(0, 0), -13);
    }

    private static void shared() {
        Due.says("SHARED: a look at a MINUTE by n (1 .. 9) who pay alike (up) for each: what each pays");
        LookAtClock x = new LookAtClock();
        int[][] calls = {{0, 1, 12}, {0, 2, 6}, {0, 5, 3}, {0, 6, 2}, {0, 7, 2}, {0, 9, 2}, {60, 1, 1}, {60, 2, 1}, {60, 9, 1}, {719, 9, 2},
            {719, 1, 11}, {599, 9, 1}, {540, 9, 1}, {600, 9, 2}, {0, 0, -1}, {0, 10, -1}, {0, LEAST, -1}, {0, GREATEST, -1}};
        for (int[] c : calls) Due.is(19, "shared(" + c[0] + ", " + c[1] + ")", x.shared(c[0], c[1]), c[2]);
    }

    private static void nine() {
        Due.says("NINE: the least n for whom each pays no more than m.");
        LookAtClock x = new LookAtClock();
        int[][] calls = {{540, 1, 9}, {600, 1, -4}, {600, 2, 5}, {0, 1, -4}, {0, 2, 6}, {0, 11, 2}, {0, 12, 1}, {0, 20, 1}, {60, 1, 1},
            {0, 0, -1}, {0, 21, -1}, {0, LEAST, -1}, {0, GREATEST, -1}};
        for (int[] c : calls) Due.is(20, "nine(" + c[0] + ", " + c[1] + ")", x.nine(c[0], c[1]), c[2]);
        Towns.read(x, "l1;");
        Due.is(20, "17 for nine", x.nine(59, 1), -4);
        Due.is(20, "17 by two", x.nine(59, 2), 9);
    }

    private static void sellers() {
        Due.says("SELLERS: one sells the time, wrong by w minutes (0 .. 60) for a pence (0 .. 12)");
        LookAtClock x = new LookAtClock();
        Due.is(21, "the least w", x.buys(0, 0, 0, 1), 1);
        Due.is(21, "the greatest w", x.buys(0, 60, 0, 1), 0);
        Due.is(21, "w below", x.buys(0, -1, 0, 1), -1);
        Due.is(21, "w above", x.buys(0, 61, 0, 1), -1);
        Due.is(21, "a at its greatest", x.buys(0, 0, 12, 0), 0);
        Due.is(21, "a one less", x.buys(0, 0, 11, 0), 1);
        Due.is(21, "a below", x.buys(0, 0, -1, 0), -1);
        Due.is(21, "a above", x.buys(0, 0, 13, 0), -1);
        Due.is(22, "the least w", x.rest(0, 0, 1), 11);
        Due.is(22, "the greatest w", x.rest(0, 60, 0), 11);
        Due.is(22, "w below", x.rest(0, -1, 0), -1);
        Due.is(22, "w above", x.rest(0, 61, 0), -1);
    }

    private static void buys() {
        Due.says("BUYS: whether at a MINUTE a and w times c (0 .. 9) together are less than the PRICE: 1, 0");
        LookAtClock x = new LookAtClock();
        int[][] calls = {{0, 3, 2, 3, 1}, {0, 3, 3, 3, 0}, {0, 3, 4, 3, 0}, {0, 1, 2, 9, 1}, {0, 1, 3, 9, 0}, {0, 60, 11, 0, 1}, {60, 0, 0, 9, 1},
            {60, 1, 0, 1, 0}, {60, 0, 1, 0, 0}, {719, 60, 12, 9, 0}, {0, 1, 1, -1, -1}, {0, 1, 1, 10, -1}, {0, 0, 0, LEAST, -1},
            {0, 0, 0, GREATEST, -1}};
        for (int[] c : calls) {
            Due.is(21, "buys(" + c[0] + ", " + c[1] + ", " + c[2] + ", " + c[3] + ")", x.buys(c[0], c[1], c[2], c[3]), c[4]);
        }
    }

    private static void atRest() {
        Due.says("AT REST: the greatest a at which one buys; -4.");
        LookAtClock x = new LookAtClock();
        int[][] calls = {{0, 0, 0, 11}, {0, 3, 3, 2}, {0, 11, 1, 0}, {0, 12, 1, -4}, {0, 13, 1, -4}, {60, 0, 9, 0}, {60, 1, 1, -4}, {60, 60, 9, -4},
            {0, 1, 9, 2}, {0, 0, -1, -1}, {0, 0, 10, -1}};
        for (int[] c : calls) Due.is(22, "rest(" + c[0] + ", " + c[1] + ", " + c[2] + ")", x.rest(c[0], c[1], c[2]), c[3]);
        Towns.read(x, "l1;");
        // PRICES of 12, 13, 14 and 17: a is 12 at most.
        int[][] others = {{0, 0, 0, 11}, {10, 0, 0, 12}, {20, 0, 0, 12}, {59, 0, 0, 12}, {59, 4, 1, 12}, {59, 5, 1, 11}, {59, 16, 1, 0}, {59, 17, 1, -4}};
        for (int[] c : others) Due.is(22, "rest(" + c[0] + ", " + c[1] + ", " + c[2] + ")", x.rest(c[0], c[1], c[2]), c[3]);
    }

    private static void twoClocks() {
        Due.says("TWO CLOCKS: another one shows 60 minutes more (719 then 0): the cheaper PRICE of both at a MINUTE");
        LookAtClock x = new LookAtClock();
        int[][] calls = {{0, 1}, {59, 1}, {60, 1}, {119, 1}, {120, 2}, {599, 9}, {600, 10}, {659, 10}, {660, 11}, {719, 11}, {-1, -1}, {720, -1}};
        for (int[] c : calls) Due.is(23, "cheaper(" + c[0] + ")", x.cheaper(c[0]), c[1]);
        Towns.read(x, "l1;");
        int[][] byTens = {{0, 1}, {59, 6}, {60, 1}, {659, 15}, {660, 11}, {719, 16}};
        for (int[] c : byTens) Due.is(23, "by tens, cheaper(" + c[0] + ")", x.cheaper(c[0]), c[1]);
        Towns.read(x, "l2;");
        Due.is(23, "by law 2, cheaper(719)", x.cheaper(719), 6);
    }

    private static void otherCheaper() {
        Due.says("how many MINUTES of a day the other one is cheaper.");
        int[] due = {60, 60, 0};
        for (int law = 0; law < 3; law++) Due.is(24, "by law " + law, Towns.of("l" + law + ";").otherCheaper(), due[law]);
    }

    private static void byLaw() {
        Due.says("BY LAW: COST of one's DAY by another LAW.");
        LookAtClock x = Towns.of("w100 10 5;k20+0 0;k36+0 50;k40-20 0;l1;");
        int[][] due = {{1, 4, 6}, {1, 1, 6}, {1, 3, 6}};
        for (int k = 0; k < 3; k++) {
            for (int law = 0; law < 3; law++) Due.is(25, "byLaw(" + k + ", " + law + ")", x.byLaw(k, law), due[k][law]);
        }
        Due.is(25, "byLaw(0, -1)", x.byLaw(0, -1), -1);
        Due.is(25, "byLaw(0, 3)", x.byLaw(0, 3), -1);
        Due.is(32, "THE LAW stays", x.count(4), 1);
        Due.is(9, "its DAY stays", x.day(0, 0), 4);
    }

    private static void sum() {
        Due.says("SUM: COST of all DAYS.");
        Due.is(26, "no LOOKERS", Towns.of("w100 10 5;").sum(), 0);
        Due.is(26, "no WORKS", Towns.of("k20+0 0;").sum(), 0);
        Due.is(26, "six", Towns.of("w100 10 5;k00-20 0;k00-20 0;k00-20 0;k00-20 0;k00-20 0;k20+0 0;").sum(), 5 * 220 + 1);
    }

    private static void order() {
        Due.says("ORDER: LOOKERS by COST, least first, of several by numbers: as digits, the first the lowest.");
        Due.is(27, "none", new LookAtClock().order(), 0);
        Due.is(27, "one", Towns.of("k00+0 0;").order(), 0);
        Due.is(27, "two alike", Towns.of("k00+0 0;k00+0 0;").order(), 10);
        Due.is(27, "six alike", Towns.of("k00+0 0;k00+0 0;k00+0 0;k00+0 0;k00+0 0;k00+0 0;").order(), 543210);
        // COSTS 25, 20, 15, 10, 5, 0.
        Due.is(27, "six the other way", Towns.of("w100 10 5;k00+0 95;k00+0 94;k00+0 93;k00+0 92;k00+0 91;k00+0 90;").order(), 12345);
        Due.is(27, "the dearer one is the first", Towns.of("w100 10 5;k00+0 91;k00+0 0;k00+0 91;").order(), 201);
    }

    private static void seeded() {
        Due.says("SEEDED: n DAYS (1 .. 20) of one from a seed z");
        LookAtClock x = Towns.of("w100 10 5;k00+0 91;k00+0 0;");
        // Up at 91 it goes at once, by any DRIFT: 5 pence a DAY.
        Due.is(28, "one", x.seeded(0, 1, 0, 0), 5);
        Due.is(28, "two", x.seeded(0, 2, 0, 0), 10);
        Due.is(28, "twenty", x.seeded(0, 20, 0, 0), 100);
        Due.is(28, "twenty, the greatest", x.seeded(0, 20, 0, 1), 5);
        Due.is(28, "twenty, LATE", x.seeded(0, 20, 0, 2), 20);
        for (int n : new int[] {0, -1, 21, LEAST, GREATEST}) Due.is(28, "n " + n, x.seeded(0, n, 0, 0), -1);
    }

    private static void seededInMind() {
        Due.says("SEEDED: n DAYS (1 .. 20) of one from a seed z (in mind)");
        LookAtClock x = Towns.of("w100 10 5;k26-20 0;l1;");
        int before = x.day(0, 0);
        int first = x.seeded(0, 20, 7, 0);
        Due.is(28, "again, the same", x.seeded(0, 20, 7, 0), first);
        Due.is(9, "its DAY stays", x.day(0, 0), before);
        Due.is(7, "its DRIFT stays", x.drift(0), -20);
        Due.is(32, "THE LAW stays", x.count(4), 1);
    }

    private static void heldDrifts() {
        Due.says("each with its DRIFT and a DRAW below 11, less 5 (held to -20 .. 20) in place of that");
        // From 0 the DRAWS are 0, 7, 0: less 5 and more 2. By -20 one comes at 144, by -18 at 138, by -5 at 108, by 2 at 98.
        LookAtClock x = Towns.of("w100 10 5;k00-20 0;k00+0 0;k00-15 0;");
        Due.is(28, "held to -20", x.seeded(0, 1, 0, 0), 220);
        Due.is(28, "-20 and -18", x.seeded(0, 2, 0, 0), 220 + 5 * 38);
        Due.is(28, "-5", x.seeded(1, 1, 0, 0), 40);
        Due.is(28, "-5 and 2", x.seeded(1, 2, 0, 0), 40);
        Due.is(28, "-5, 2 and -5", x.seeded(1, 3, 0, 0), 80);
        Due.is(28, "-20, just not held", x.seeded(2, 1, 0, 0), 220);
        // From 1 the DRAWS are 8, 5, 4: by 23 it would look at 58, for 12; by 20 it looks at 60, by 19 at 61.
        LookAtClock y = Towns.of("w80 0 0;k20+20 0;k20+17 0;");
        Due.is(28, "held to 20", y.seeded(0, 1, 1, 0), 1);
        Due.is(28, "20 and 20", y.seeded(0, 2, 1, 0), 2);
        Due.is(28, "20, 20 and 19", y.seeded(0, 3, 1, 0), 3);
        Due.is(28, "20, just not held", y.seeded(1, 1, 1, 0), 1);
    }

    private static void lateDays() {
        Due.says("all COSTS together; the greatest; on how many it came to some WORK behind its AT.");
        // From 0: -5, 2, -5, 2, -5, 4, 2, 2. It is LATE by 8 on three DAYS.
        LookAtClock x = Towns.of("w100 10 5;k00+0 0;");
        Due.is(28, "all", x.seeded(0, 8, 0, 0), 120);
        Due.is(28, "the greatest", x.seeded(0, 8, 0, 1), 40);
        Due.is(28, "LATE", x.seeded(0, 8, 0, 2), 3);
        LookAtClock none = Towns.of("w100 10 0;k00+0 0;k00+0 101;");
        Due.is(28, "without pence, all", none.seeded(0, 8, 0, 0), 0);
        Due.is(28, "without pence, LATE", none.seeded(0, 8, 0, 2), 3);
        Due.is(28, "left out, LATE", none.seeded(1, 20, 0, 2), 0);
        // LATE twice on a DAY is one DAY.
        Due.is(28, "two WORKS a DAY", Towns.of("w100 1 0;w101 1 0;k00+0 100;").seeded(0, 4, 0, 2), 4);
        Due.is(28, "by one minute", Towns.of("w100 1 0;k00+0 100;").seeded(0, 4, 0, 2), 4);
        Due.is(28, "by none", Towns.of("w100 0 0;k00+0 100;").seeded(0, 4, 0, 2), 0);
        LookAtClock free = Towns.of("k00+0 100;");
        for (int what = 0; what < 3; what++) Due.is(28, "without WORKS, what " + what, free.seeded(0, 20, 0, what), 0);
    }

    private static void draws() {
        Due.says("z becomes z times 1103515245 plus 12345 (an int); a DRAW below n is (z without its sign's bit over 65536, cut) modulo n.");
        int[] seeds = {0, LEAST, -1, GREATEST, 9, 1, 7};
        int[][] due = {{0, 7, 0, 7, 0, 9, 7, 7}, {0, 7, 0, 7, 0, 9, 7, 7}, {1, 9, 6, 10, 1, 0, 5, 9}, {1, 9, 6, 10, 1, 0, 5, 9},
            {1, 1, 9, 7, 3, 4, 8, 7}, {8, 5, 4, 3, 9, 6, 9, 5}, {6, 5, 0, 3, 4, 10, 2, 0}};
        // So slow, each DRIFT has a COST of its own.
        for (int i = 0; i < seeds.length; i++) {
            int all = 0;
            for (int n = 1; n <= 8; n++) {
                int drift = due[i][n - 1] - 5 - 10;
                all += Towns.of("w400 0 1;k00" + drift + " 0;").day(0, 0);
                LookAtClock x = Towns.of("w400 0 1;k00-10 0;");
                Due.is(28, "from " + seeds[i] + ", " + n, x.seeded(0, n, seeds[i], 0), all);
            }
        }
    }

    /** A LOOKER 0 that looks at 20, 60, 92, 240, and one that never does. */
    private static LookAtClock fourLooks() {
        return Towns.of("w100 10 5;w300 50 1;p20;p60;p92;p240;k65-20 0;k00+0 0;");
    }

    private static void judgedInOrder() {
        Due.says("JUDGED: a ROW: MINUTES of all LOOKS of one's DAY (but WAKE), in order: the place of the first that isn't so");
        LookAtClock x = fourLooks();
        int[][] rows = {{20, 60, 92, 240}, {21, 60, 92, 240}, {20, 59, 92, 240}, {20, 60, 93, 240}, {20, 60, 92, 239}, {60, 20, 92, 240},
            {0, 20, 60, 92, 240}, {-20, 60, 92, 240}, {1, 1, 1}, {1, 1, 1, 1, 1}};
        int[] due = {-4, 0, 1, 2, 3, 0, 0, 0, 0, 0};
        for (int i = 0; i < rows.length; i++) {
            for (int sort = 1; sort < 3; sort++) {
                Towns.putRow(x, 0, sort, rows[i]);
                Due.is(29, "row " + i + " of SORT " + sort, x.judge(0, 0), due[i]);
            }
        }
        // A byte holds no 240.
        Towns.putRow(x, 0, 0, 20, 60, 92, 240);
        Due.is(29, "of bytes", x.judge(0, 0), 3);
        LookAtClock y = Towns.of("w100 10 5;k20+0 0;");
        Towns.putRow(y, 0, 0, 90);
        Due.is(29, "of a byte", y.judge(0, 0), -4);
    }

    private static void judgedSkips() {
        Due.says("(the least number of the SORT is skipped)");
        LookAtClock x = fourLooks();
        int[] least = {-128, -32768, LEAST};
        for (int sort = 0; sort < 3; sort++) {
            Towns.putRow(x, 0, sort, 20, least[sort], 92, least[sort]);
            Due.is(29, "skipped twice", x.judge(0, 0), -4);
            Towns.putRow(x, 0, sort, least[sort], 60, 93, least[sort]);
            Due.is(29, "skipped, then wrong", x.judge(0, 0), 2);
            Towns.putRow(x, 0, sort, 20, least[sort] + 1, 92, least[sort]);
            Due.is(29, "one more than the least", x.judge(0, 0), 1);
        }
        Towns.putRow(x, 0, 1, 20, -128, 92, 240);
        Due.is(29, "the least byte in a row of shorts", x.judge(0, 0), 1);
        Towns.putRow(x, 0, 2, 20, -32768, 92, 240);
        Due.is(29, "the least short in a row of ints", x.judge(0, 0), 1);
    }

    private static void judgedShort() {
        Due.says("where it ends, if it is short");
        LookAtClock x = fourLooks();
        int[] looks = {20, 60, 92, 240};
        for (int size = 0; size < 4; size++) {
            x.row(0, 1, size);
            for (int i = 0; i < size; i++) x.put(0, i, looks[i]);
            Due.is(29, "of " + size, x.judge(0, 0), size);
        }
        Towns.putRow(x, 0, 1, 20, -32768);
        Due.is(29, "short, though its last is skipped", x.judge(0, 0), 2);
        Towns.putRow(x, 0, 1, 20, 61, 92);
        Due.is(29, "wrong ahead of short", x.judge(0, 0), 1);
        LookAtClock atNought = Towns.of("w100 10 5;p0;k60+0 0;");
        for (int sort = 0; sort < 3; sort++) {
            atNought.row(0, sort, 0);
            Due.is(29, "short of a look at 0", atNought.judge(0, 0), 0);
            atNought.row(0, sort, 1);
            Due.is(29, "a look at 0", atNought.judge(0, 0), -4);
        }
    }

    private static void judgedLong() {
        Due.says("how many there are, if it is long; -4.");
        LookAtClock x = fourLooks();
        Towns.putRow(x, 0, 1, 20, 60, 92, 240, 300);
        Due.is(29, "long by one", x.judge(0, 0), 4);
        Towns.putRow(x, 0, 1, 20, 60, 92, 240, 240, 300);
        Due.is(29, "long by two", x.judge(0, 0), 4);
        Towns.putRow(x, 0, 1, 20, 60, 93, 240, 300);
        Due.is(29, "wrong ahead of long", x.judge(0, 0), 2);
        Towns.putRow(x, 0, 1, 20, 60, 92, 240, -4);
        Due.is(29, "long by a -4", x.judge(0, 0), 4);
        Towns.putRow(x, 0, 1, 0);
        Due.is(29, "long where there is none", x.judge(1, 0), 0);
        x.row(0, 1, 100);
        Due.is(29, "a hundred where there is none", x.judge(1, 0), 0);
        x.row(0, 1, 0);
        Due.is(29, "none where there is none", x.judge(1, 0), -4);
    }

    private static void image() {
        Due.says("THE IMAGE: all that there is, but SHELVES (and THE IMAGE); RESTORED all is as it was then.");
        LookAtClock x = Towns.of("w100 10 5;w300 0 1;k22-20 7;k60+0 0;l1;p7;p8;");
        Due.is(31, "there is none", x.restore(), -3);
        Due.is(30, "image()", x.image(), 2);
        Towns.read(x, "w400 20 1;w500 0 0;w600 0 0;k00+3 5;k00+3 5;k00+3 5;k00+3 5;l2;");
        Towns.read(x, "p9;p10;p11;p12;p13;p14;");
        Due.is(31, "from full", x.restore(), 2);
        int[] counts = {2, 2, 2, 10, 1};
        for (int what = 0; what < 5; what++) Due.is(32, "count(" + what + ")", x.count(what), counts[what]);
        Due.is(5, "the first WORK", x.work(0, 0), 100);
        Due.is(5, "the last WORK", x.work(1, 0), 300);
        Due.is(5, "no other", x.work(2, 0), -1);
        Due.is(7, "the first's DRIFT", x.drift(0), -20);
        Due.is(6, "no other LOOKER", x.looker(2, 0), -1);
        Days.looks(x, 1, 7, 8);
        Due.is(31, "it is still there", x.restore(), 2);
        Due.is(2, "there is room again", Towns.read(x, "w301 0 0;p9;k00+0 0;"), 3);
        Due.is(30, "in place of the one ahead", x.image(), 3);
        x.law(0);
        Due.is(31, "the later one", x.restore(), 3);
        Due.is(32, "its law", x.count(4), 1);
        LookAtClock empty = new LookAtClock();
        Due.is(30, "of nothing", empty.image(), 0);
        Towns.read(empty, "w1 1 1;k00+0 0;p1;l2;");
        Due.is(31, "to nothing", empty.restore(), 0);
        for (int what = 0; what < 5; what++) Due.is(32, "count(" + what + ")", empty.count(what), 0);
        // Done behind THE IMAGE, it is not in it: whatever it holds is its own.
        LookAtClock own = Towns.of("w10 0 1;");
        own.image();
        own.law(2);
        own.image();
        own.law(1);
        Due.is(31, "of the second", own.restore(), 0);
        Due.is(32, "its law", own.count(4), 2);
    }

    private static void shelvesStay() {
        Due.says("when THE IMAGE is RESTORED, SHELVES stay as they are.");
        LookAtClock x = Towns.of("k09+0 0;");
        x.keep(0, 1, 0);
        Towns.putRow(x, 1, 2, 55);
        x.image();
        Towns.read(x, "k19+0 0;");
        x.keep(0, 1, 1);
        x.put(1, 0, 66);
        x.keep(2, 1, 1);
        x.restore();
        Due.is(38, "a LOOKER that is no more", x.skill(0), 10);
        Due.is(39, "its number", x.toss(0), 1);
        Due.is(36, "an element", Towns.elementOf(x, 1, 0), 66);
        Due.is(38, "kept behind THE IMAGE", x.skill(2), 10);
        Towns.read(x, "k79+0 0;");
        Due.is(38, "another one has its number", x.skill(0), 10);
        Due.is(33, "keep(0, 0, 0)", x.keep(0, 0, 0), 0);
        x.restore();
        Due.is(38, "nothing stays nothing", x.skill(0), -11);
    }

    private static void manyCalls() {
        Due.says("An object is used for at most 512 calls after it has been made");
        LookAtClock x = Towns.of("w135 0 9;k40-20 0;");
        int made = 20;
        for (int call = made + 1; call < 512; call++) {
            if (x.bestFigure(0) != 9) Due.is(12, "call " + call, x.bestFigure(0), 9);
        }
        Due.is(12, "the last call", x.bestFigure(0), 9);
        LookAtClock y = new LookAtClock();
        for (int call = 1; call < 512; call++) {
            int told = call % 2 == 0 ? y.row(call % 8, 2, 100) : y.image();
            if (told != 0) Due.is(34, "call " + call, told, 0);
        }
        Due.is(31, "the last of the others", y.restore(), 0);
    }
}

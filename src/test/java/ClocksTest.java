/** Promises 23 to 29: two clocks, laws, all lookers, days by seeds, looks that are judged. */
final class ClocksTest {
    private ClocksTest() {
    }

    static void run() {
        cheaper();
        otherCheaper();
        byLaw();
        sums();
        orders();
        seeded();
        lateByOne();
        seededRefusals();
        judged();
        judgeRefusals();
    }

    private static void cheaper() {
        LookAtClock x = new LookAtClock();
        Due.is(23, "the other one", x.cheaper(0), 1);
        Due.is(23, "this one", x.cheaper(60), 1);
        Due.is(23, "behind 719 comes 0", x.cheaper(719), 11);
        x.law(1);
        Due.is(23, "tens are the same", x.cheaper(59), 6);
        Due.is(23, "this one, by law 1", x.cheaper(679), 12);
        x.law(2);
        Due.is(23, "by law 2", x.cheaper(0), 6);
        Due.is(23, "cheaper(-1)", x.cheaper(-1), -1);
        Due.is(23, "cheaper(720)", x.cheaper(720), -1);
    }

    private static void otherCheaper() {
        LookAtClock x = new LookAtClock();
        Due.is(24, "law 0", x.otherCheaper(), 60);
        x.law(1);
        Due.is(24, "law 1", x.otherCheaper(), 60);
        x.law(2);
        Due.is(24, "law 2", x.otherCheaper(), 0);
    }

    private static void byLaw() {
        LookAtClock x = Towns.of("w100 10 5;k22-20 0;k39+0 0;");
        Due.is(25, "byLaw(0, 0)", x.byLaw(0, 0), 146);
        Due.is(25, "byLaw(0, 1)", x.byLaw(0, 1), 145 + 6);
        Due.is(25, "byLaw(0, 2)", x.byLaw(0, 2), 145 + 6);
        Due.is(25, "it waits by that law", x.byLaw(1, 2), 6);
        Due.is(25, "the law stays", x.count(4), 0);
        Due.is(25, "byLaw(2, 0)", x.byLaw(2, 0), -1);
        Due.is(25, "byLaw(-1, 0)", x.byLaw(-1, 0), -1);
        Due.is(25, "byLaw(0, 3)", x.byLaw(0, 3), -1);
        Due.is(25, "byLaw(0, -1)", x.byLaw(0, -1), -1);
    }

    private static void sums() {
        LookAtClock x = Towns.of("w100 10 5;k22-20 0;k00-20 0;k13-20 0;");
        Due.is(26, "sum()", x.sum(), 146 + 220 + 175);
        LookAtClock fewer = Towns.of("w100 10 5;k00+0 0;k00-20 0;");
        fewer.image();
        Towns.read(fewer, "k22-20 0;k13-20 0;");
        Due.is(26, "of four", fewer.sum(), 220 + 146 + 175);
        Due.is(27, "of four", fewer.order(), 1320);
        fewer.restore();
        Due.is(26, "of two again", fewer.sum(), 220);
        Due.is(27, "of two again", fewer.order(), 10);
        Due.is(26, "of none", Towns.of("w100 10 5;").sum(), 0);
    }

    private static void orders() {
        LookAtClock x = Towns.of("w100 10 5;k00-20 0;k13-20 0;k22-20 0;");
        Due.is(27, "2, 1, 0", x.order(), 12);
        Towns.read(x, "k00+0 0;k00-20 0;k22-20 0;");
        // COSTS 220, 175, 146, 0, 220, 146: 3, 2, 5, 1, 0, 4.
        Due.is(27, "of several by numbers", x.order(), 401523);
        Due.is(27, "alike", Towns.of("k00+0 0;k00+0 0;k00+0 0;").order(), 210);
        Due.is(27, "one", Towns.of("k00+0 0;").order(), 0);
    }

    /** SEEDED by the days of lookers whose drift is written into a town's text. */
    private static void seeded() {
        String works = "w100 10 5;w200 0 1;";
        int[] drifts = {0, -20, 18, -3};
        int[] seeds = {0, 9, -1, Integer.MIN_VALUE, 123456789};
        for (int kind = 0; kind < 8; kind++) {
            for (int i = 0; i < drifts.length; i++) {
                seededAs(works, kind, drifts[i], seeds[(kind + i) % seeds.length], 1 + 19 * (i % 2));
            }
        }
    }

    private static void seededAs(String works, int kind, int drift, int seed, int n) {
        long z = seed;
        int all = 0;
        int greatest = 0;
        int late = 0;
        for (int i = 0; i < n; i++) {
            z = (int) (z * 1103515245L + 12345L);
            int draw = (int) ((z & 0x7fffffffL) / 65536 % 11);
            int held = Math.max(-20, Math.min(20, drift + draw - 5));
            LookAtClock one = Towns.of(works + looker(kind, held));
            all += one.day(0, 0);
            greatest = Math.max(greatest, one.day(0, 0));
            if (one.day(0, 2) > 0) late++;
        }
        LookAtClock x = Towns.of(works + looker(kind, drift));
        String call = "seeded of KIND " + kind + " by " + drift + " from " + seed;
        Due.is(28, call + ", all", x.seeded(0, n, seed, 0), all);
        Due.is(28, call + ", the greatest", x.seeded(0, n, seed, 1), greatest);
        Due.is(28, call + ", late", x.seeded(0, n, seed, 2), late);
        Due.is(28, call + ", the drift stays", x.drift(0), drift);
    }

    /** Up as late as AT, one comes late by its WALK, however it reckons. */
    private static void lateByOne() {
        LookAtClock x = Towns.of("w100 1 5;k00+0 100;");
        Due.is(28, "late by one minute, all", x.seeded(0, 3, 1, 0), 15);
        Due.is(28, "late by one minute, the greatest", x.seeded(0, 3, 1, 1), 5);
        Due.is(28, "late by one minute, on how many", x.seeded(0, 3, 1, 2), 3);
    }

    private static String looker(int kind, int drift) {
        return "k" + kind + "3" + (drift < 0 ? "" : "+") + drift + " 0;";
    }

    private static void seededRefusals() {
        LookAtClock x = Towns.of("w100 10 5;k00+0 0;");
        Due.is(28, "nobody", x.seeded(1, 1, 1, 0), -1);
        Due.is(28, "nobody below", x.seeded(-1, 1, 1, 0), -1);
        Due.is(28, "no days", x.seeded(0, 0, 1, 0), -1);
        Due.is(28, "21 days", x.seeded(0, 21, 1, 0), -1);
        Due.is(28, "what 3", x.seeded(0, 1, 1, 3), -1);
        Due.is(28, "what -1", x.seeded(0, 1, 1, -1), -1);
    }

    private static void judged() {
        LookAtClock x = Towns.of("w100 10 5;w300 50 1;p20;p60;p92;p240;k65-20 0;k00+0 0;");
        Towns.putRow(x, 0, 1, 20, 60, 92, 240);
        Due.is(29, "all so", x.judge(0, 0), -4);
        Towns.putRow(x, 0, 2, 20, 60, 92, 240);
        Due.is(29, "ints, all so", x.judge(0, 0), -4);
        Towns.putRow(x, 0, 2, 20, 61, 92, 241);
        Due.is(29, "the first that isn't so", x.judge(0, 0), 1);
        Towns.putRow(x, 0, 1, 20, 60, 92);
        Due.is(29, "short", x.judge(0, 0), 3);
        Towns.putRow(x, 0, 1, 20, 60, 92, 240, 240);
        Due.is(29, "long", x.judge(0, 0), 4);
        Towns.putRow(x, 0, 1, 20, -32768, 92, -32768);
        Due.is(29, "skipped", x.judge(0, 0), -4);
        Towns.putRow(x, 0, 2, Integer.MIN_VALUE, 60, 92, 241);
        Due.is(29, "skipped, then wrong", x.judge(0, 0), 3);
        Towns.putRow(x, 0, 2, -32768, 60, 92, 240);
        Due.is(29, "another SORT's least number", x.judge(0, 0), 0);
        Towns.putRow(x, 0, 0, 20, 60, 92, -128);
        Due.is(29, "bytes", x.judge(0, 0), -4);
        Towns.putRow(x, 0, 0, 20, 60, 92, 240);
        Due.is(29, "240 is no byte", x.judge(0, 0), 3);
        Towns.putRow(x, 0, 1, 20, 60, 92, 240, -32768);
        Due.is(29, "long all the same", x.judge(0, 0), 4);
        x.row(0, 0, 0);
        Due.is(29, "none, and none told", x.judge(1, 0), -4);
        Due.is(29, "none told", x.judge(0, 0), 0);
        x.row(0, 0, 1);
        Due.is(29, "none, and one told", x.judge(1, 0), 0);
    }

    private static void judgeRefusals() {
        LookAtClock x = Towns.of("k00+0 0;");
        Due.is(29, "judge(1, 0)", x.judge(1, 0), -1);
        Due.is(29, "judge(-1, 0)", x.judge(-1, 0), -1);
        Due.is(29, "judge(0, 8)", x.judge(0, 8), -1);
        Due.is(29, "judge(0, -1)", x.judge(0, -1), -1);
        Due.is(29, "nothing held", x.judge(0, 0), -11);
        x.keep(0, 1, 0);
        Due.is(29, "no row", x.judge(0, 0), -12);
    }
}

/** Promises 1 to 8: a new object, and what a town is told. */
final class TownTest {
    private static final int BELOW = -1000000001;

    private TownTest() {
    }

    static void run() {
        newObject();
        townIsRead();
        townFaultsOfForm();
        townFaultsOfNumbers();
        townRefusals();
        prices();
        laws();
        works();
        lookers();
        drifts();
        thinking();
    }

    private static void newObject() {
        LookAtClock x = new LookAtClock();
        Due.is(1, "count(0)", x.count(0), 0);
        Due.is(1, "count(1)", x.count(1), 0);
        Due.is(1, "count(2)", x.count(2), 0);
        Due.is(1, "count(3)", x.count(3), 0);
        Due.is(1, "count(4)", x.count(4), 0);
        Due.is(1, "sum()", x.sum(), 0);
        Due.is(1, "order()", x.order(), 0);
        Due.is(1, "restore()", x.restore(), -3);
        for (int d = 0; d < 8; d++) Due.is(1, "skill(" + d + ")", x.skill(d), -11);
    }

    private static void townIsRead() {
        LookAtClock x = new LookAtClock();
        Due.is(2, "w", Towns.read(x, "w0 0 0;"), 1);
        Due.is(2, "w again", Towns.read(x, "w719 59 9;"), 1);
        Due.is(2, "several", Towns.read(x, "k00+0 0;k79-20 719;l2;p0;p719;"), 5);
        Due.is(2, "count(0)", x.count(0), 2);
        Due.is(2, "count(1)", x.count(1), 2);
        Due.is(2, "count(2)", x.count(2), 2);
        Due.is(2, "count(4)", x.count(4), 2);
        Due.is(2, "-0", Towns.read(x, "k00-0 0;"), 1);
        Due.is(2, "drift of -0", x.drift(2), 0);
        Due.is(2, "the text stays", Towns.elementOf(x, Towns.TEXT_SHELF, 0), 'k');
        Due.is(2, "it is read again", x.town(Towns.TEXT_SHELF), 1);
    }

    private static void townFaultsOfForm() {
        LookAtClock x = new LookAtClock();
        String[] texts = {"", "x", ";", "w", "w5", "w05 1 1;", "w1000 1 1;", "w5  1 1;", "w5 1", "w5 01 1;", "w5 100 1;",
            "w5 1 12;", "w5 1 1", "w5 1 1;;", "k", "k1", "k123+0 0;", "k00 0 0;", "k00+", "k00+00 0;", "k00+100 0;",
            "k00+0;", "k00+0 00;", "k00+0 1000;", "k00+0 0", "l", "l;", "l12;", "p", "p;", "p05;", "p1000;", "p5",
            "p5;q", "W5 1 1;", "w-5 1 1;", "p5; p6;"};
        int[] places = {0, 0, 0, 1, 2, 2, 4, 3, 4, 4, 5,
            6, 6, 7, 1, 2, 3, 3, 4, 5, 6,
            5, 7, 9, 7, 1, 1, 2, 1, 1, 2, 4, 2,
            3, 0, 1, 3};
        for (int i = 0; i < texts.length; i++) {
            Due.is(2, "\"" + texts[i] + "\"", Towns.read(x, texts[i]), -1000 - places[i]);
        }
        Due.is(2, "form ahead of numbers", Towns.read(x, "l3;x"), -1003);
        Towns.putRow(x, 0, 0, 'l', '1', ';', -1);
        Due.is(2, "a byte below 0", x.town(0), -1003);
        Due.is(2, "nothing came", x.count(0) + x.count(1) + x.count(2) + x.count(4), 0);
    }

    private static void townFaultsOfNumbers() {
        LookAtClock x = new LookAtClock();
        String[] texts = {"w720 1 1;", "w5 60 1;", "w5 1 1;w5 1 1;", "w5 1 1;w4 1 1;", "k80+0 0;", "k90+0 0;", "k00+21 0;",
            "k00-21 0;", "k00+0 720;", "l3;", "l9;", "p720;", "p5;p5;", "p5;p4;", "l1;p7;l3;l4;",
            "w1 0 0;w2 0 0;w3 0 0;w4 0 0;w5 0 0;w6 0 0;", "p1;p2;p3;p4;p5;p6;p7;p8;p9;",
            "k00+0 0;k00+0 0;k00+0 0;k00+0 0;k00+0 0;k00+0 0;k00+0 0;"};
        int[] places = {0, 0, 7, 7, 0, 0, 0, 0, 0, 0, 0, 0, 3, 3, 6, 35, 24, 48};
        for (int i = 0; i < texts.length; i++) {
            Due.is(2, "\"" + texts[i] + "\"", Towns.read(x, texts[i]), -2000 - places[i]);
        }
        Due.is(2, "nothing came", x.count(0) + x.count(1) + x.count(2) + x.count(4), 0);
        Towns.read(x, "w100 10 5;p50;");
        Due.is(2, "AT as that of one ahead", Towns.read(x, "w100 1 1;"), -2000);
        Due.is(2, "MINUTE as that of one ahead", Towns.read(x, "l2;p50;"), -2003);
        Due.is(2, "the law came not", x.count(4), 0);
        Due.is(2, "a later one", Towns.read(x, "w101 1 1;p51;"), 2);
    }

    private static void townRefusals() {
        LookAtClock x = Towns.of("k00+0 0;");
        Due.is(2, "town(-1)", x.town(-1), -1);
        Due.is(2, "town(8)", x.town(8), -1);
        Due.is(2, "town of nothing", x.town(0), -11);
        x.keep(0, 1, 0);
        Due.is(2, "town of a looker", x.town(0), -12);
        x.row(0, 1, 3);
        Due.is(2, "town of shorts", x.town(0), -12);
        x.row(0, 2, 3);
        Due.is(2, "town of ints", x.town(0), -12);
    }

    private static void prices() {
        LookAtClock x = new LookAtClock();
        int[] minutes = {0, 9, 59, 60, 119, 120, 719};
        int[][] due = {{12, 12, 12, 1, 1, 2, 11}, {12, 12, 17, 1, 6, 2, 16}, {6, 6, 6, 6, 6, 6, 6}};
        for (int law = 0; law < 3; law++) {
            x.law(law);
            for (int i = 0; i < minutes.length; i++) {
                Due.is(3, "price(" + minutes[i] + ") by law " + law, x.price(minutes[i]), due[law][i]);
            }
            Due.is(3, "price(-1)", x.price(-1), -1);
            Due.is(3, "price(720)", x.price(720), -1);
        }
    }

    private static void laws() {
        LookAtClock x = new LookAtClock();
        Due.is(4, "law(2)", x.law(2), 0);
        Due.is(4, "law(3)", x.law(3), -1);
        Due.is(4, "law(-1)", x.law(-1), -1);
        Due.is(4, "law(1)", x.law(1), 2);
        Due.is(4, "law(1) again", x.law(1), 1);
        Due.is(4, "law(0)", x.law(0), 1);
    }

    private static void works() {
        LookAtClock x = Towns.of("w0 59 9;w719 0 3;");
        Due.is(5, "work(0, 0)", x.work(0, 0), 0);
        Due.is(5, "work(0, 1)", x.work(0, 1), 59);
        Due.is(5, "work(0, 2)", x.work(0, 2), 9);
        Due.is(5, "work(1, 0)", x.work(1, 0), 719);
        Due.is(5, "work(1, 1)", x.work(1, 1), 0);
        Due.is(5, "work(1, 2)", x.work(1, 2), 3);
        Due.is(5, "work(2, 0)", x.work(2, 0), -1);
        Due.is(5, "work(-1, 0)", x.work(-1, 0), -1);
        Due.is(5, "work(0, 3)", x.work(0, 3), -1);
        Due.is(5, "work(0, -1)", x.work(0, -1), -1);
    }

    private static void lookers() {
        LookAtClock x = Towns.of("k03+5 1;k14-5 2;k25+0 719;k36+1 4;k47+1 5;k58+1 6;");
        LookAtClock y = Towns.of("k69+1 7;k72-20 8;");
        int[] early = {0, 8, 0, 0, 0, 0};
        for (int i = 0; i < 6; i++) {
            Due.is(6, "KIND of " + i, x.looker(i, 0), i);
            Due.is(6, "FIGURE of " + i, x.looker(i, 1), i + 3);
            Due.is(6, "WAKE of " + i, x.looker(i, 2), i == 2 ? 719 : i + 1);
            Due.is(6, "EARLY of " + i, x.looker(i, 3), early[i]);
        }
        Due.is(6, "EARLY of a TOLD", y.looker(0, 3), 9);
        Due.is(6, "KIND of a TOLD", y.looker(0, 0), 6);
        Due.is(6, "KIND of a SELLER", y.looker(1, 0), 7);
        Due.is(6, "EARLY of a SELLER", y.looker(1, 3), 0);
        Due.is(6, "looker(6, 0)", x.looker(6, 0), -1);
        Due.is(6, "looker(-1, 0)", x.looker(-1, 0), -1);
        Due.is(6, "looker(0, 4)", x.looker(0, 4), -1);
        Due.is(6, "looker(0, -1)", x.looker(0, -1), -1);
    }

    private static void drifts() {
        LookAtClock x = Towns.of("k00-20 0;k00+20 0;k00-1 0;");
        Due.is(7, "drift(0)", x.drift(0), -20);
        Due.is(7, "drift(1)", x.drift(1), 20);
        Due.is(7, "drift(2)", x.drift(2), -1);
        Due.is(7, "drift(3)", x.drift(3), BELOW);
        Due.is(7, "drift(-1)", x.drift(-1), BELOW);
    }

    private static void thinking() {
        LookAtClock x = Towns.of("k00-20 0;k00+20 0;k00+7 0;");
        Due.is(8, "slow, cut", x.thinks(0, 100, 102), 102);
        Due.is(8, "slow", x.thinks(0, 100, 103), 102);
        Due.is(8, "slow, a day", x.thinks(0, 0, 719), 480);
        Due.is(8, "fast, cut", x.thinks(1, 100, 102), 102);
        Due.is(8, "fast, a day", x.thinks(1, 0, 719), 958);
        Due.is(8, "by 7", x.thinks(2, 0, 60), 67);
        Due.is(8, "at the look", x.thinks(1, 719, 719), 719);
        Due.is(8, "look behind", x.thinks(1, 5, 4), BELOW);
        Due.is(8, "no look", x.thinks(1, -1, 4), BELOW);
        Due.is(8, "no minute", x.thinks(1, 0, 720), BELOW);
        Due.is(8, "neither", x.thinks(1, 720, 720), BELOW);
        Due.is(8, "nobody", x.thinks(3, 0, 0), BELOW);
        Due.is(8, "nobody below", x.thinks(-1, 0, 0), BELOW);
    }
}

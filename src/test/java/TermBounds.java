/** The bounds that the document's terms name: minutes, laws, works, lookers, what is thought; a test for each sentence. */
final class TermBounds {
    private static final int LEAST = Integer.MIN_VALUE;
    private static final int GREATEST = Integer.MAX_VALUE;
    private static final int BELOW = -1000000001;

    private TermBounds() {
    }

    static void run() {
        newObject();
        minutes();
        hours();
        laws();
        priceByHour();
        priceByTens();
        priceOfSix();
        fiveWorks();
        laterWorks();
        walks();
        pence();
        sixLookers();
        eightKinds();
        figures();
        drifts();
        wakes();
        thoughts();
        cutTowardNought();
        wakeKnowsTheTime();
    }

    private static void newObject() {
        Due.says("`LookAtClock()`: No WORKS, no LOOKERS.");
        LookAtClock x = new LookAtClock();
        for (int what = 0; what < 5; what++) Due.is(1, "count(" + what + ")", x.count(what), 0);
        Due.is(1, "work(0, 0)", x.work(0, 0), -1);
        Due.is(1, "looker(0, 0)", x.looker(0, 0), -1);
        Due.is(1, "day(0, 0)", x.day(0, 0), -1);
        Due.is(1, "sum()", x.sum(), 0);
        Due.is(1, "order()", x.order(), 0);
        Due.is(1, "restore()", x.restore(), -3);
        Due.is(1, "image()", x.image(), 0);
    }

    private static void minutes() {
        Due.says("MINUTES of a day are 0 .. 719");
        LookAtClock x = new LookAtClock();
        Due.is(3, "price(0)", x.price(0), 12);
        Due.is(3, "price(719)", x.price(719), 11);
        Due.is(3, "price(-1)", x.price(-1), -1);
        Due.is(3, "price(720)", x.price(720), -1);
        Due.is(3, "price of the least number", x.price(LEAST), -1);
        Due.is(3, "price of the greatest number", x.price(GREATEST), -1);
    }

    private static void hours() {
        Due.says("the HOUR at one is that by 60, cut, and 12 for 0.");
        LookAtClock x = new LookAtClock();
        Due.is(3, "the first of 12", x.price(0), 12);
        Due.is(3, "the last of 12", x.price(59), 12);
        for (int hour = 1; hour <= 11; hour++) {
            Due.is(3, "the first of " + hour, x.price(60 * hour), hour);
            Due.is(3, "the last of " + hour, x.price(60 * hour + 59), hour);
        }
    }

    private static void laws() {
        Due.says("THE LAW (0 .. 2; 0 at first)");
        LookAtClock x = new LookAtClock();
        Due.is(32, "at first", x.count(4), 0);
        Due.is(4, "law(-1)", x.law(-1), -1);
        Due.is(4, "law(3)", x.law(3), -1);
        Due.is(4, "law of the least number", x.law(LEAST), -1);
        Due.is(4, "law of the greatest number", x.law(GREATEST), -1);
        Due.is(32, "still as at first", x.count(4), 0);
        Due.is(4, "the greatest law, at first 0 was", x.law(2), 0);
        Due.is(4, "the least law", x.law(0), 2);
        Due.is(4, "it was the least", x.law(1), 0);
        Due.is(32, "the one between", x.count(4), 1);
    }

    private static void priceByHour() {
        Due.says("PRICE of a look at a MINUTE: 0: the HOUR");
        LookAtClock x = new LookAtClock();
        Due.is(3, "the least", x.price(60), 1);
        Due.is(3, "tens don't matter", x.price(119), 1);
        Due.is(3, "the greatest", x.price(50), 12);
    }

    private static void priceByTens() {
        Due.says("1: the HOUR and (the MINUTE modulo 60) by 10, cut");
        LookAtClock x = Towns.of("l1;");
        int[] minutes = {0, 9, 10, 19, 49, 50, 59, 60, 69, 70, 119, 120, 659, 660, 709, 710, 719};
        int[] due = {12, 12, 13, 13, 16, 17, 17, 1, 1, 2, 6, 2, 15, 11, 15, 16, 16};
        for (int i = 0; i < minutes.length; i++) Due.is(3, "price(" + minutes[i] + ")", x.price(minutes[i]), due[i]);
    }

    private static void priceOfSix() {
        Due.says("2: 6.");
        LookAtClock x = Towns.of("l2;");
        for (int minute : new int[] {0, 59, 60, 360, 719}) Due.is(3, "price(" + minute + ")", x.price(minute), 6);
        Due.is(3, "price(-1)", x.price(-1), -1);
        Due.is(3, "price(720)", x.price(720), -1);
    }

    private static void fiveWorks() {
        Due.says("WORKS 0 .. 4 as they come");
        LookAtClock x = Towns.of("w1 0 0;w2 0 0;w3 0 0;w4 0 0;");
        Due.is(5, "the fifth is not there yet", x.work(4, 0), -1);
        Due.is(2, "the fifth and a sixth", Towns.read(x, "w5 0 0;w6 0 0;"), -2007);
        Due.is(5, "neither came", x.work(4, 0), -1);
        Due.is(2, "the fifth", Towns.read(x, "w5 0 0;"), 1);
        for (int work = 0; work < 5; work++) Due.is(5, "work(" + work + ", 0)", x.work(work, 0), work + 1);
        Due.is(2, "a sixth", Towns.read(x, "w6 0 0;"), -2000);
        Due.is(32, "five", x.count(0), 5);
        Due.is(5, "work(5, 0)", x.work(5, 0), -1);
        Due.is(5, "work(-1, 0)", x.work(-1, 0), -1);
        Due.is(2, "six in one text", Towns.read(new LookAtClock(), "w1 0 0;w2 0 0;w3 0 0;w4 0 0;w5 0 0;w6 0 0;"), -2035);
        Towns.read(x, "k00+0 0;");
        Days.comes(x, 0, 1, 2, 3, 4, 5);
    }

    private static void laterWorks() {
        Due.says("AT (a MINUTE later than that of all ahead)");
        LookAtClock x = new LookAtClock();
        Due.is(2, "no MINUTE", Towns.read(x, "w720 0 0;"), -2000);
        Due.is(2, "the greatest of three digits", Towns.read(x, "w999 0 0;"), -2000);
        Due.is(2, "the least MINUTE", Towns.read(x, "w0 0 0;"), 1);
        Due.is(2, "as late", Towns.read(x, "w0 0 0;"), -2000);
        Due.is(2, "later by one", Towns.read(x, "w1 0 0;"), 1);
        Due.is(2, "as late as the first", Towns.read(x, "w0 0 0;"), -2000);
        Due.is(2, "as late as the last", Towns.read(x, "w1 0 0;"), -2000);
        Due.is(2, "the greatest MINUTE", Towns.read(x, "w719 0 0;"), 1);
        Due.is(2, "none is later", Towns.read(x, "w720 0 0;"), -2000);
        Due.is(32, "three came", x.count(0), 3);
        Due.is(2, "as late, in one text", Towns.read(new LookAtClock(), "w9 0 0;w9 0 0;"), -2007);
        Due.is(2, "earlier, in one text", Towns.read(new LookAtClock(), "w9 0 0;w8 0 0;"), -2007);
        Due.is(2, "later, in one text", Towns.read(new LookAtClock(), "w9 0 0;w10 0 0;"), 2);
    }

    private static void walks() {
        Due.says("WALK (0 .. 59 minutes)");
        LookAtClock x = Towns.of("w1 0 0;w2 59 0;");
        Due.is(5, "the least", x.work(0, 1), 0);
        Due.is(5, "the greatest", x.work(1, 1), 59);
        Due.is(2, "one more", Towns.read(x, "w3 60 0;"), -2000);
        Due.is(2, "the greatest of two digits", Towns.read(x, "w3 99 0;"), -2000);
        Due.is(32, "two came", x.count(0), 2);
    }

    private static void pence() {
        Due.says("LATE (0 .. 9 pence a minute)");
        LookAtClock x = Towns.of("w1 0 0;w2 0 9;");
        Due.is(5, "the least", x.work(0, 2), 0);
        Due.is(5, "the greatest", x.work(1, 2), 9);
        Due.is(2, "no second digit", Towns.read(x, "w3 0 10;"), -1006);
    }

    private static void sixLookers() {
        Due.says("LOOKERS 0 .. 5 as they come");
        LookAtClock x = Towns.of("k00+0 0;k01+0 0;k02+0 0;k03+0 0;k04+0 0;");
        Due.is(6, "the sixth is not there yet", x.looker(5, 1), -1);
        Due.is(2, "the sixth and a seventh", Towns.read(x, "k05+0 0;k06+0 0;"), -2008);
        Due.is(6, "neither came", x.looker(5, 1), -1);
        Due.is(2, "the sixth", Towns.read(x, "k05+0 0;"), 1);
        for (int k = 0; k < 6; k++) Due.is(6, "looker(" + k + ", 1)", x.looker(k, 1), k);
        Due.is(2, "a seventh", Towns.read(x, "k06+0 0;"), -2000);
        Due.is(32, "six", x.count(1), 6);
        Due.is(6, "looker(6, 1)", x.looker(6, 1), -1);
        Due.is(6, "looker(-1, 1)", x.looker(-1, 1), -1);
        Due.is(2, "seven in one text",
            Towns.read(new LookAtClock(), "k00+0 0;k00+0 0;k00+0 0;k00+0 0;k00+0 0;k00+0 0;k00+0 0;"), -2048);
    }

    private static void eightKinds() {
        Due.says("of KINDS: 0 LOOKER; 1 NEVER under LOOKER; 2 CLOCK under LOOKER; 3 CHEAP under CLOCK; "
            + "4 BEST under CLOCK; 5 SHARE under CLOCK; 6 TOLD under LOOKER; 7 SELLER under CHEAP");
        for (int kind = 0; kind < 8; kind++) {
            Due.is(6, "KIND " + kind, Towns.of("k" + kind + "0+0 0;").looker(0, 0), kind);
        }
        LookAtClock x = Towns.of("k00+0 0;k70+0 0;");
        Due.is(2, "KIND 8", Towns.read(x, "k80+0 0;"), -2000);
        Due.is(2, "KIND 9", Towns.read(x, "k90+0 0;"), -2000);
        Due.is(32, "two came", x.count(1), 2);
    }

    private static void figures() {
        Due.says("a FIGURE (0 .. 9)");
        LookAtClock x = Towns.of("k00+0 0;k09+0 0;");
        Due.is(6, "the least", x.looker(0, 1), 0);
        Due.is(6, "the greatest", x.looker(1, 1), 9);
        Due.is(2, "no second digit", Towns.read(x, "k010+0 0;"), -1003);
    }

    private static void drifts() {
        Due.says("DRIFT (-20 .. 20)");
        LookAtClock x = Towns.of("k00-20 0;k00+20 0;k00-1 0;k00+0 0;");
        int[] due = {-20, 20, -1, 0};
        for (int k = 0; k < due.length; k++) Due.is(7, "drift(" + k + ")", x.drift(k), due[k]);
        for (String text : new String[] {"k00+21 0;", "k00-21 0;", "k00+99 0;", "k00-99 0;"}) {
            Due.is(2, text, Towns.read(x, text), -2000);
        }
        Due.is(32, "four came", x.count(1), 4);
    }

    private static void wakes() {
        Due.says("WAKE (a MINUTE).");
        LookAtClock x = Towns.of("k00+0 0;k00+0 719;");
        Due.is(6, "the least", x.looker(0, 2), 0);
        Due.is(6, "the greatest", x.looker(1, 2), 719);
        Due.is(2, "one more", Towns.read(x, "k00+0 720;"), -2000);
        Due.is(2, "the greatest of three digits", Towns.read(x, "k00+0 999;"), -2000);
        Due.is(2, "no later than one ahead", Towns.read(x, "k00+0 0;"), 1);
        Due.is(32, "three came", x.count(1), 3);
    }

    private static void thoughts() {
        Due.says("One THINKS at a MINUTE t, its latest LOOK having been at l: t, and (t less l) times DRIFT by 60, cut toward 0, more.");
        LookAtClock x = Towns.of("k00-20 0;k00+20 0;k00-1 0;k00+1 0;k00+0 0;");
        int[][] calls = {{0, 100, 102, 102}, {0, 100, 103, 102}, {0, 100, 105, 104}, {0, 100, 106, 104}, {0, 0, 719, 480},
            {1, 100, 102, 102}, {1, 100, 103, 104}, {1, 100, 105, 106}, {1, 100, 106, 108}, {1, 0, 719, 958},
            {2, 5, 64, 64}, {2, 5, 65, 64}, {2, 5, 124, 123}, {2, 5, 125, 123}, {3, 5, 64, 64}, {3, 5, 65, 66},
            {3, 5, 124, 125}, {3, 5, 125, 127}, {4, 0, 719, 719}, {0, 0, 0, 0}, {1, 719, 719, 719}};
        for (int[] c : calls) {
            Due.is(8, "thinks(" + c[0] + ", " + c[1] + ", " + c[2] + ")", x.thinks(c[0], c[1], c[2]), c[3]);
        }
        Due.is(8, "a look behind the MINUTE", x.thinks(0, 101, 100), BELOW);
    }

    private static void cutTowardNought() {
        Due.says("\"a by b, cut\" is a divided by b, toward 0");
        LookAtClock x = Towns.of("k00-7 0;k00+7 0;l1;");
        // 8 times 7 by 60 is none, 9 times 7 by 60 is one; 17 times one, 18 times two.
        int[][] calls = {{8, 8, 8}, {9, 8, 10}, {17, 16, 18}, {18, 16, 20}};
        for (int[] c : calls) {
            Due.is(8, "slow at " + c[0], x.thinks(0, 0, c[0]), c[1]);
            Due.is(8, "fast at " + c[0], x.thinks(1, 0, c[0]), c[2]);
        }
        Due.is(3, "price(79)", x.price(79), 2);
        Due.is(3, "price(80)", x.price(80), 3);
    }

    private static void wakeKnowsTheTime() {
        Due.says("At WAKE it knows the time (a LOOK without PRICE).");
        // The first reckons from 0: 134 - 44 is 90. The second, up at 60, from there: 104 - 14 is 90.
        LookAtClock x = Towns.of("w100 10 5;k00-20 0;k00-20 60;k00-20 90;k00-20 89;");
        Days.comes(x, 0, 144);
        Days.comes(x, 1, 114);
        Days.comes(x, 2, 100);
        Days.comes(x, 3, 100);
        Days.day(x, 1, 70, 0, 14, 0, 0);
        Days.looks(x, 1);
    }
}

/** The bounds that the document names for a DAY: when one looks, goes, comes, and pays; a test for each sentence. */
final class DayBounds {
    private DayBounds() {
    }

    static void run() {
        leftOut();
        freeFrom();
        looksFirst();
        goes();
        goesAtTheLastMinute();
        walksOff();
        late();
        freeAgain();
        idle();
        blindOnTheWay();
        early();
        neverLooks();
        clockLooks();
        cheapLooks();
        bestLooks();
        shareLooks();
        toldLooks();
        sellerLooks();
        fees();
        costs();
    }

    private static void leftOut() {
        Due.says("(those whose AT is before WAKE are left out)");
        LookAtClock x = Towns.of("w50 0 1;k20+0 49;k20+0 50;k20+0 51;k20+0 719;");
        Days.comes(x, 0, 50);
        Days.comes(x, 1, 50);
        Days.comes(x, 2, -4);
        Days.comes(x, 3, -4);
        Days.looks(x, 1, 50);
        Days.looks(x, 2);
        Days.day(x, 2, 0, 0, 0, 0, 0);
        // Only those: one that is not left out comes as the first, from WAKE on.
        LookAtClock y = Towns.of("w50 0 9;w51 0 9;w52 10 9;k00+0 51;");
        Days.comes(y, 0, -4, 51, 61);
        Days.day(y, 0, 81, 0, 9, 0, 0);
    }

    private static void freeFrom() {
        Due.says("from the MINUTE at which it is free (at first WAKE) on, MINUTE by MINUTE");
        LookAtClock x = Towns.of("w100 10 5;k00+0 89;k00+0 90;k00+0 91;k20+0 91;");
        Days.comes(x, 0, 100);
        Days.comes(x, 1, 100);
        Days.comes(x, 2, 101);
        Days.looks(x, 3, 91);
    }

    private static void looksFirst() {
        Due.says("it LOOKS first, if its KIND would (it pays then, and knows the time)");
        // It would go at 68, where it thinks 90; but it looks first, and thinks 90 again at 85, by 17 and 5 more.
        LookAtClock x = Towns.of("w100 10 5;k20+20 0;k00+20 0;k20+0 0;k20+0 90;");
        Days.looks(x, 0, 68);
        Days.comes(x, 0, 95);
        Days.day(x, 0, 1, 1, 0, 5, 1);
        Days.comes(x, 1, 78);
        // A look at the minute at which it goes is paid all the same; at WAKE, too.
        Days.looks(x, 2, 90);
        Days.day(x, 2, 1, 1, 0, 0, 1);
        Days.looks(x, 3, 90);
        Days.day(x, 3, 1, 1, 0, 0, 1);
    }

    private static void goes() {
        Due.says("then, if it THINKS that it is AT less WALK less its EARLY, or later, it goes");
        LookAtClock x = Towns.of("w100 10 5;k00+0 0;k00+20 0;k00-20 0;k65+0 0;k65+20 0;");
        Days.comes(x, 0, 100);
        Days.comes(x, 1, 78);
        Days.comes(x, 2, 144);
        Days.comes(x, 3, 95);
        // 64 + 21 is 85; at 63 it thinks 84.
        Days.comes(x, 4, 74);
        // What it thinks leaps from 2 to 4: or later.
        LookAtClock y = Towns.of("w3 0 1;k00+20 0;");
        Days.comes(y, 0, 3);
        Due.is(8, "thinks(0, 0, 2)", y.thinks(0, 0, 2), 2);
        Due.is(8, "thinks(0, 0, 3)", y.thinks(0, 0, 3), 4);
        // AT less WALK less EARLY may be below 0: it goes at once.
        LookAtClock z = Towns.of("w0 59 1;k19-20 0;k29-20 0;");
        Days.comes(z, 0, 59);
        Days.comes(z, 1, 59);
        Days.looks(z, 1, 0);
    }

    private static void goesAtTheLastMinute() {
        Due.says("(at 719 in any case)");
        LookAtClock x = Towns.of("w719 0 9;k00-20 0;k00-20 717;k00-20 719;k09-20 0;k20-20 0;");
        Due.is(8, "it thinks less", x.thinks(0, 0, 719), 480);
        for (int k = 0; k < 4; k++) Days.comes(x, k, 719);
        Days.day(x, 0, 0, 0, 0, 0, 0);
        Days.comes(x, 4, 719);
        Days.looks(x, 4);
        LookAtClock y = Towns.of("w718 0 1;w719 59 1;k00-20 0;");
        Days.comes(y, 0, 719, 778);
        Days.day(y, 0, 60, 0, 60, 0, 0);
    }

    private static void walksOff() {
        Due.says("It comes WALK later");
        Days.comes(Towns.of("w100 0 5;k00+0 0;"), 0, 100);
        Days.comes(Towns.of("w100 59 5;k00+20 0;"), 0, 31 + 59);
        Days.comes(Towns.of("w10 59 5;k00+0 0;"), 0, 59);
        Days.comes(Towns.of("w719 59 5;k00+0 719;"), 0, 778);
    }

    private static void late() {
        Due.says("LATE for each minute behind AT");
        LookAtClock x = Towns.of("w100 10 5;k00+0 89;k00+0 90;k00+0 91;k00+0 92;k00+20 0;");
        Days.day(x, 0, 0, 0, 0, 0, 0);
        Days.day(x, 1, 0, 0, 0, 0, 0);
        Days.day(x, 2, 5, 0, 1, 0, 0);
        Days.day(x, 3, 10, 0, 2, 0, 0);
        Days.day(x, 4, 0, 0, 0, 22, 0);
        Days.day(Towns.of("w100 10 0;k00+0 91;"), 0, 0, 0, 1, 0, 0);
        Days.day(Towns.of("w719 59 9;k00+0 719;"), 0, 531, 0, 59, 0, 0);
    }

    private static void freeAgain() {
        Due.says("it is free then as it comes, or at AT, if that is later (719 at most)");
        // It comes at 40 and is free at 50, where it thinks 66; from 40 on it would have gone at 45.
        LookAtClock x = Towns.of("w50 10 2;w60 0 3;k00+20 0;k60+0 0;p50;p51;");
        Days.comes(x, 0, 40, 50);
        Days.looks(x, 1, 50, 51);
        // It comes at AT: free at AT.
        Days.comes(Towns.of("w50 10 0;w51 0 0;k00+0 40;"), 0, 50, 51);
        // It comes at 60, behind AT: free at 60.
        Days.comes(Towns.of("w50 10 0;w55 0 0;k00+0 50;"), 0, 60, 60);
        // It comes at 719, at 720, at 777: free at 719.
        Days.comes(Towns.of("w718 1 0;w719 0 0;k00+0 718;"), 0, 719, 719);
        Days.comes(Towns.of("w718 2 0;w719 0 0;k00+0 718;"), 0, 720, 719);
        LookAtClock y = Towns.of("w718 59 0;w719 0 5;k00+0 718;k60+0 718;p719;");
        Days.comes(y, 0, 777, 719);
        Days.day(y, 0, 0, 0, 59, 0, 0);
        Days.looks(y, 1, 719);
    }

    private static void idle() {
        Due.says("how long it waits for AT is IDLE");
        LookAtClock x = Towns.of("w4 1 1;k00+20 0;k00+0 0;k00+0 4;k11+0 0;");
        // At 3 it thinks 4, at 2 it thinks 2; it has to leave at 3.
        Days.day(x, 0, 0, 0, 0, 0, 0);
        Days.day(x, 1, 0, 0, 0, 0, 0);
        Days.day(x, 2, 1, 0, 1, 0, 0);
        Days.day(x, 3, 0, 0, 0, 2, 0);
        Days.day(Towns.of("w4 0 1;k00+20 0;"), 0, 0, 0, 0, 1, 0);
        Days.day(Towns.of("w50 10 2;w60 0 3;w719 0 1;k00+20 0;"), 0, 0, 0, 0, 10 + 10 + 179, 0);
    }

    private static void blindOnTheWay() {
        Due.says("While it walks or waits it does not look.");
        // It goes at 41, comes at 91, waits till 100; there it is free, and looks again.
        LookAtClock x = Towns.of("w100 50 0;w300 0 0;k69+0 0;", "p41;p42;p90;p91;p99;p100;p101;");
        Days.looks(x, 0, 41, 100, 101);
        Days.comes(x, 0, 91, 291);
        // Behind its last WORK it looks no more, be it free.
        Days.looks(Towns.of("w100 0 0;k60+0 0;p100;p101;"), 0, 100);
        // What is read from the PLAN on the way is over: it comes at 110, late by 10.
        Days.looks(Towns.of("w100 59 0;w200 0 0;k60+0 51;p51;p52;p109;p110;"), 0, 51, 110);
    }

    private static void early() {
        Due.says("EARLY: LOOKER 0; NEVER twice its FIGURE; CLOCK, CHEAP, BEST, SHARE, SELLER as a LOOKER; TOLD its FIGURE.");
        int[] ofFigureNine = {0, 18, 0, 0, 0, 0, 9, 0};
        int[] comesByIt = {100, 82, 100, 100, 100, 100, 91, 100};
        for (int kind = 0; kind < 8; kind++) {
            LookAtClock x = Towns.of("w100 0 1;k" + kind + "9+0 0;k" + kind + "0+0 0;k" + kind + "1+0 0;");
            Due.is(6, "EARLY of KIND " + kind + ", FIGURE 9", x.looker(0, 3), ofFigureNine[kind]);
            Due.is(6, "EARLY of KIND " + kind + ", FIGURE 0", x.looker(1, 3), 0);
            Due.is(6, "EARLY of KIND " + kind + ", FIGURE 1", x.looker(2, 3), ofFigureNine[kind] / 9);
            Days.comes(x, 0, comesByIt[kind]);
            Days.comes(x, 1, 100);
            Days.comes(x, 2, 100 - ofFigureNine[kind] / 9);
        }
    }

    private static void neverLooks() {
        Due.says("It LOOKS at a MINUTE for a WORK: LOOKER, NEVER never.");
        LookAtClock x = Towns.of("w100 10 5;w200 0 9;p0;p50;p90;p100;k09+0 0;k19+0 0;k09-20 0;k19-20 0;");
        for (int k = 0; k < 4; k++) {
            Days.looks(x, k);
            Due.is(9, "paid", x.day(k, 4), 0);
        }
    }

    private static void clockLooks() {
        Due.says("CLOCK once for each WORK, the first MINUTE at which it THINKS that it is AT less WALK less 5 times FIGURE, or later.");
        LookAtClock x = Towns.of("w100 10 1;w300 0 1;k20+0 0;k21+0 0;k29+0 0;k29+0 46;k22-20 0;k29+20 0;");
        Days.looks(x, 0, 90, 300);
        Days.looks(x, 1, 85, 295);
        Days.looks(x, 2, 45, 255);
        Days.looks(x, 3, 46, 255);
        // 119 - 39 is 80, at 118 it thinks 79; later on 119 is its latest look: 375 - 85 is 290.
        Due.is(10, "look(4, 0)", x.look(4, 0), 119);
        Due.is(10, "look(4, 1)", x.look(4, 1), 375);
        // 34 + 11 is 45, 33 + 11 is 44.
        Due.is(10, "look(5, 0)", x.look(5, 0), 34);
        // At 719 it looks if it thinks so, and goes unseeing if it doesn't.
        LookAtClock y = Towns.of("w719 0 9;k20-20 717;k20-20 716;k20-20 0;k21-20 702;k20+0 719;");
        Days.looks(y, 0, 719);
        Days.looks(y, 1);
        Days.looks(y, 2);
        Days.looks(y, 3, 719);
        Days.looks(y, 4, 719);
        // A PLAN is nothing to it; a WORK left out gets no look.
        Days.looks(Towns.of("w20 0 1;w100 0 1;p30;p100;k20+0 21;"), 0, 100);
        // The WORK may be over as it is free: it looks at once.
        Days.looks(Towns.of("w50 10 0;w55 0 0;k29+0 50;"), 0, 50, 60);
    }

    private static void cheapLooks() {
        Due.says("CHEAP the first such MINUTE at which the PRICE is also no more than FIGURE.");
        LookAtClock x = Towns.of("w250 10 1;k33+0 0;k32+0 0;k30+0 0;k39+0 0;");
        // By FIGURE 3 at 225, where it is 3; by 2 only at 230, where it is 3: never. By 9 at 195.
        Days.looks(x, 0, 225);
        Days.looks(x, 1);
        Days.comes(x, 1, 250);
        Days.looks(x, 2);
        Days.looks(x, 3, 195);
        // From 45 on it would look; at 60 it is cheap for the first time.
        LookAtClock y = Towns.of("w70 0 1;k35+0 0;k31+0 0;k32+0 61;");
        Days.looks(y, 0, 60);
        Days.looks(y, 1, 65);
        Days.looks(y, 2, 61);
        // Where it gets cheap as it goes, it looks; a minute later is too late, and no day comes behind 719.
        Days.looks(Towns.of("w60 0 1;k39+0 0;"), 0, 60);
        Days.looks(Towns.of("w59 0 1;k39+0 0;"), 0);
        Days.looks(Towns.of("w719 0 1;k39+0 660;"), 0);
        Days.looks(Towns.of("l2;w100 0 1;k36+0 0;"), 0, 70);
        Days.looks(Towns.of("l2;w100 0 1;k35+0 0;"), 0);
        // Once for each WORK.
        Days.looks(Towns.of("w100 0 1;w150 0 1;k31+0 0;"), 0, 95);
        Days.looks(Towns.of("w100 0 1;w119 0 1;k31+0 0;"), 0, 95, 114);
    }

    private static void bestLooks() {
        Due.says("BEST as a CLOCK of that FIGURE (0 .. 9) by which its DAY costs it least; of several the least.");
        // By any of 0 to 6 it pays 1: by the least it looks as it goes.
        LookAtClock x = Towns.of("w100 10 5;k40+0 0;k49+0 0;k49-20 0;");
        Days.looks(x, 0, 90);
        Days.looks(x, 1, 90);
        Due.is(12, "of several the least", x.bestFigure(1), 0);
        Due.is(6, "its own FIGURE stays", x.looker(1, 1), 9);
        // 89 - 29 is 60, which is 6 times 5 ahead of 90; from there it goes at 90.
        Due.is(12, "one between", x.bestFigure(2), 6);
        Days.looks(x, 2, 89);
        Days.day(x, 2, 1, 1, 0, 0, 1);
        // 134 - 44 is 90, which is 9 times 5 ahead of 135; by 8 it would look at 142, late.
        LookAtClock y = Towns.of("w135 0 9;k40-20 0;");
        Due.is(12, "the greatest", y.bestFigure(0), 9);
        Days.looks(y, 0, 134);
        Days.comes(y, 0, 135);
        Days.day(y, 0, 2, 1, 0, 0, 2);
        // Nothing to do costs nothing by any FIGURE.
        Due.is(12, "without WORKS", Towns.of("k49+5 0;").bestFigure(0), 0);
    }

    private static void shareLooks() {
        Due.says("SHARE as a CLOCK.");
        LookAtClock x = Towns.of("w100 10 1;w300 0 1;p40;k50+0 0;k59+0 0;k59+0 46;");
        Days.looks(x, 0, 90, 300);
        Days.looks(x, 1, 45, 255);
        Days.looks(x, 2, 46, 255);
    }

    private static void toldLooks() {
        Due.says("TOLD at the MINUTES of the PLAN (a set told below).");
        LookAtClock x = Towns.of("w719 0 1;p0;p1;p30;p718;p719;k60+0 0;k60+0 1;k60+0 2;k69+0 0;k60+0 719;");
        Days.looks(x, 0, 0, 1, 30, 718, 719);
        Days.looks(x, 1, 1, 30, 718, 719);
        Days.looks(x, 2, 30, 718, 719);
        // By FIGURE 9 it goes at 710.
        Days.looks(x, 3, 0, 1, 30);
        Days.looks(x, 4, 719);
        // The PLAN may be empty, or full.
        Days.looks(Towns.of("w719 0 1;k60+0 0;"), 0);
        LookAtClock full = Towns.of("p1;p2;p3;p4;p5;p6;p7;p8;w719 0 1;k60+0 0;k60+0 8;k60+0 9;");
        Days.looks(full, 0, 1, 2, 3, 4, 5, 6, 7, 8);
        Days.looks(full, 1, 8);
        Days.looks(full, 2);
        LookAtClock early = Towns.of("p1;p2;p3;p4;p5;p6;p7;p8;w100 0 1;k60+0 0;k60+20 0;");
        Days.looks(early, 0, 1, 2, 3, 4, 5, 6, 7, 8);
        Days.comes(early, 0, 100);
        // From 8 on it is fast: 77 + 23 is 100.
        Days.comes(early, 1, 77);
        // A look sets it right at once: at 92 it knows that 85 is over.
        LookAtClock y = Towns.of("w100 10 5;p92;k65-20 0;");
        Days.comes(y, 0, 102);
        // At the last minute of one WORK and the first of the next it looks for each.
        Days.looks(Towns.of("w100 0 1;w200 0 1;p100;k60+0 0;"), 0, 100, 100);
    }

    private static void sellerLooks() {
        Due.says("SELLER as a CHEAP.");
        LookAtClock x = Towns.of("w250 10 1;k73+0 0;k72+0 0;k70+0 0;k79+0 0;");
        Days.looks(x, 0, 225);
        Days.looks(x, 1);
        Days.looks(x, 2);
        Days.looks(x, 3, 195);
    }

    private static void fees() {
        Due.says("It pays: the PRICE; SHARE half of that, up; SELLER the PRICE less 2, 0 at least.");
        int[] hours = {60, 120, 180, 540, 660, 0};
        int[] price = {1, 2, 3, 9, 11, 12};
        int[] half = {1, 1, 2, 5, 6, 6};
        int[] lessTwo = {0, 0, 1, 7, 0, 0};
        for (int i = 0; i < hours.length; i++) {
            // Up at the hour, with the WORK at hand: it looks at once; a SELLER by FIGURE 9 not where it is dearer.
            String rest = "+0 " + hours[i] + ";";
            LookAtClock x = Towns.of("w" + hours[i] + " 0 0;k20" + rest + "k50" + rest + "k79" + rest + "k60" + rest
                + "k39" + rest + "k40" + rest, "p" + hours[i] + ";");
            Due.is(9, "a CLOCK pays " + price[i], x.day(0, 4), price[i]);
            Due.is(9, "a SHARE pays " + half[i], x.day(1, 4), half[i]);
            Due.is(9, "a SELLER pays " + lessTwo[i], x.day(2, 4), lessTwo[i]);
            Due.is(9, "a SELLER looks", x.day(2, 1), price[i] <= 9 ? 1 : 0);
            Due.is(9, "a TOLD pays " + price[i], x.day(3, 4), price[i]);
            Due.is(9, "a CHEAP pays", x.day(4, 4), price[i] <= 9 ? price[i] : 0);
            Due.is(9, "a BEST pays " + price[i], x.day(5, 4), price[i]);
        }
        Due.is(9, "half of 17, up", Towns.of("l1;w59 0 0;k50+0 0;").day(0, 4), 9);
    }

    private static void costs() {
        Due.says("COST of a DAY: all that it paid, and LATE for all minutes.");
        LookAtClock x = Towns.of("w100 10 5;w300 0 9;w301 1 0;k20+0 91;k00+0 0;k00+0 719;");
        // It looks at 91, 300 and 300: 1, 5 and 5; late by 1 for 5 pence, by 0, by 0.
        Days.day(x, 0, 1 + 5 + 5 + 5, 3, 1, 0, 11);
        Days.day(x, 1, 0, 0, 0, 0, 0);
        Days.day(x, 2, 0, 0, 0, 0, 0);
        Days.day(Towns.of("k20+0 0;"), 0, 0, 0, 0, 0, 0);
        Days.day(Towns.of("w10 59 9;w11 59 9;w12 59 9;w13 59 9;w14 59 9;k00+0 0;"), 0,
            9 * (49 + 107 + 165 + 223 + 281), 0, 49 + 107 + 165 + 223 + 281, 0, 0);
    }
}

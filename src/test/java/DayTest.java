/** Promises 9 to 17: days, reckoned by hand from the document's words. */
final class DayTest {
    private static final int BELOW = -1000000001;

    private DayTest() {
    }

    static void run() {
        lookersAndNevers();
        clocks();
        cheapOnes();
        feesOfShareAndSeller();
        bestOnes();
        toldOnes();
        severalWorks();
        leftOut();
        dayRefusals();
        bestFigures();
        always();
        pays();
        bestKinds();
        edges();
        waits();
    }

    /** COST, LOOKS, LATE, IDLE, paid of one's day. */
    private static void day(LookAtClock x, int looker, int... due) {
        for (int what = 0; what < due.length; what++) {
            Due.is(9, "day(" + looker + ", " + what + ")", x.day(looker, what), due[what]);
        }
    }

    private static void lookersAndNevers() {
        LookAtClock x = Towns.of("w100 10 5;k00+0 0;k00-20 0;k09+20 0;k13-20 0;k13+0 0;k00+0 95;");
        day(x, 0, 0, 0, 0, 0, 0);
        Due.is(11, "comes(0, 0)", x.comes(0, 0), 100);
        day(x, 1, 220, 0, 44, 0, 0);
        Due.is(11, "comes(1, 0)", x.comes(1, 0), 144);
        day(x, 2, 0, 0, 0, 22, 0);
        Due.is(11, "comes(2, 0)", x.comes(2, 0), 78);
        day(x, 3, 175, 0, 35, 0, 0);
        Due.is(11, "comes(3, 0)", x.comes(3, 0), 135);
        day(x, 4, 0, 0, 0, 6, 0);
        day(x, 5, 25, 0, 5, 0, 0);
    }

    private static void clocks() {
        LookAtClock x = Towns.of("w100 10 5;k22-20 0;k29-20 0;k20+20 0;k21+0 89;k20+0 90;");
        day(x, 0, 146, 1, 29, 0, 1);
        Due.is(10, "look(0, 0)", x.look(0, 0), 119);
        Due.is(10, "look(0, 1)", x.look(0, 1), -4);
        day(x, 1, 56, 1, 11, 0, 1);
        Due.is(10, "look(1, 0)", x.look(1, 0), 67);
        Due.is(11, "comes(1, 0)", x.comes(1, 0), 111);
        // It looks when it would go, at 68, and reckons anew from there: 68 + 17 + 17 * 20 / 60 is 90.
        day(x, 2, 1, 1, 0, 5, 1);
        Due.is(10, "look(2, 0)", x.look(2, 0), 68);
        Due.is(11, "comes(2, 0)", x.comes(2, 0), 95);
        day(x, 3, 1, 1, 0, 0, 1);
        Due.is(10, "at WAKE, and paid", x.look(3, 0), 89);
        day(x, 4, 1, 1, 0, 0, 1);
        Due.is(10, "at WAKE and off", x.look(4, 0), 90);
    }

    private static void cheapOnes() {
        LookAtClock x = Towns.of("w200 10 1;k31+0 0;k32+0 0;k33+0 0;k73+0 0;k30+0 0;");
        day(x, 0, 0, 0, 0, 0, 0);
        day(x, 1, 0, 0, 0, 0, 0);
        day(x, 2, 2, 1, 0, 0, 2);
        Due.is(10, "look(2, 0)", x.look(2, 0), 175);
        day(x, 3, 0, 1, 0, 0, 0);
        x.law(1);
        day(x, 2, 3, 1, 0, 0, 3);
        Due.is(10, "it waits for the price", x.look(2, 0), 180);
        LookAtClock y = Towns.of("w70 0 1;k35+0 0;k35+0 61;");
        Due.is(10, "past the twelfth hour", y.look(0, 0), 60);
        Due.is(10, "at WAKE", y.look(1, 0), 61);
    }

    private static void feesOfShareAndSeller() {
        LookAtClock x = Towns.of("w400 0 1;w500 0 1;k51+0 0;k71+0 0;k79+0 0;k21+0 0;");
        day(x, 0, 7, 2, 0, 0, 7);
        day(x, 1, 0, 0, 0, 0, 0);
        day(x, 2, 8, 2, 0, 0, 8);
        day(x, 3, 14, 2, 0, 0, 14);
        x.law(2);
        day(x, 0, 6, 2, 0, 0, 6);
        day(x, 2, 8, 2, 0, 0, 8);
        LookAtClock y = Towns.of("w100 0 1;k71+0 0;k51+0 0;");
        day(y, 0, 0, 1, 0, 0, 0);
        day(y, 1, 1, 1, 0, 0, 1);
    }

    private static void bestOnes() {
        LookAtClock x = Towns.of("w100 10 5;k40-20 0;k49+0 0;");
        Due.is(12, "bestFigure(0)", x.bestFigure(0), bestByClocks("w100 10 5;", "-20 0;"));
        day(x, 0, leastByClocks("w100 10 5;", "-20 0;"));
        Due.is(12, "of several the least", x.bestFigure(1), 0);
        Due.is(10, "its own FIGURE does not matter", x.look(1, 0), 90);
        Due.is(12, "FIGURE stays as it is", x.looker(1, 1), 9);
    }

    private static int clockCost(String works, int figure, String rest) {
        return Towns.of(works + "k2" + figure + rest).day(0, 0);
    }

    private static int leastByClocks(String works, String rest) {
        return clockCost(works, bestByClocks(works, rest), rest);
    }

    private static int bestByClocks(String works, String rest) {
        int best = 0;
        for (int figure = 1; figure <= 9; figure++) {
            if (clockCost(works, figure, rest) < clockCost(works, best, rest)) best = figure;
        }
        return best;
    }

    private static void toldOnes() {
        LookAtClock x = Towns.of("w100 10 5;w300 50 1;p20;p60;p92;p240;", "k65-20 0;k60+0 20;k65+0 240;k60+0 0;");
        // At 92 it knows that 85 is over, and goes.
        day(x, 0, 12 + 1 + 1 + 4 + 10, 4, 2, 3, 18);
        Due.is(10, "look(0, 0)", x.look(0, 0), 20);
        Due.is(10, "look(0, 1)", x.look(0, 1), 60);
        Due.is(10, "look(0, 2)", x.look(0, 2), 92);
        Due.is(10, "look(0, 3)", x.look(0, 3), 240);
        Due.is(10, "look(0, 4)", x.look(0, 4), -4);
        Due.is(11, "comes(0, 0)", x.comes(0, 0), 102);
        Due.is(11, "comes(0, 1)", x.comes(0, 1), toldComes());
        Due.is(10, "at WAKE, and paid", x.look(1, 0), 20);
        Due.is(10, "not while it walks", x.look(3, 2), 240);
        Due.is(9, "WAKE in the PLAN costs", x.day(2, 4), 4);
        LookAtClock y = Towns.of("w100 0 1;w200 0 1;p100;k60+0 0;");
        Due.is(9, "at 100 for each WORK", y.day(0, 1), 2);
        Due.is(10, "look(0, 1)", y.look(0, 1), 100);
        LookAtClock eight = Towns.of("w100 0 1;p1;p2;p3;p4;p5;p6;p7;p8;k60+0 0;");
        Due.is(9, "the whole PLAN for one WORK", eight.day(0, 1), 8);
        Due.is(11, "and then off in time", eight.comes(0, 0), 100);
        LookAtClock z = Towns.of("w10 59 0;w20 59 0;w30 59 0;p719;k60-20 0;");
        Due.is(9, "719 is far", z.day(0, 1), 0);
        LookAtClock last = Towns.of("w700 0 1;w710 0 1;w719 59 1;p719;k60-20 0;");
        Due.is(9, "at 719 for each WORK", last.day(0, 1), 3);
        Due.is(11, "719 and WALK", last.comes(0, 2), 778);
    }

    /** From 240 on it goes as soon as it thinks 300 - 50 - 5: 240 + 8 - 8 * 20 / 60 is 246, 240 + 7 - 2 is 245. */
    private static int toldComes() {
        return 247 + 50;
    }

    private static void severalWorks() {
        LookAtClock x = Towns.of("w10 59 2;w50 59 3;w719 0 9;k00+0 0;k00-20 600;k20-20 0;");
        // It comes at 59, late by 49; goes on at once, comes at 118, late by 68; then waits for 719.
        day(x, 0, 49 * 2 + 68 * 3, 0, 117, 0, 0);
        Due.is(11, "comes(0, 1)", x.comes(0, 1), 118);
        Due.is(11, "comes(0, 2)", x.comes(0, 2), 719);
        Due.is(11, "at 719 in any case", x.comes(1, 2), 719);
        Due.is(10, "a look for each WORK", x.look(2, 1), 59);
        Due.is(10, "none at 719 if it thinks less", x.look(2, 2), -4);
        LookAtClock y = Towns.of("w50 10 2;w60 0 3;k00+20 0;");
        // It goes at 30 (30 + 10), waits from 40 for 50, is free at 50, and thinks 50 + 16 then.
        day(y, 0, 0, 0, 0, 10 + 10, 0);
        Due.is(11, "comes(0, 1)", y.comes(0, 1), 50);
    }

    private static void leftOut() {
        LookAtClock x = Towns.of("w50 0 1;w51 10 1;k00+0 51;k00+0 52;k20+0 51;");
        Due.is(11, "AT before WAKE", x.comes(0, 0), -4);
        Due.is(11, "AT is WAKE", x.comes(0, 1), 61);
        day(x, 0, 10, 0, 10, 0, 0);
        Due.is(11, "all left out", x.comes(1, 1), -4);
        day(x, 1, 0, 0, 0, 0, 0);
        Due.is(10, "no look for what is left out", x.look(2, 1), -4);
    }

    private static void dayRefusals() {
        LookAtClock x = Towns.of("w100 10 5;k20+0 0;");
        Due.is(9, "day(1, 0)", x.day(1, 0), -1);
        Due.is(9, "day(-1, 0)", x.day(-1, 0), -1);
        Due.is(9, "day(0, 5)", x.day(0, 5), -1);
        Due.is(9, "day(0, -1)", x.day(0, -1), -1);
        Due.is(10, "look(1, 0)", x.look(1, 0), -1);
        Due.is(10, "look(-1, 0)", x.look(-1, 0), -1);
        Due.is(10, "look(0, -1)", x.look(0, -1), -1);
        Due.is(10, "look(0, far)", x.look(0, Integer.MAX_VALUE), -4);
        Due.is(11, "comes(1, 0)", x.comes(1, 0), -1);
        Due.is(11, "comes(0, 1)", x.comes(0, 1), -1);
        Due.is(11, "comes(0, -1)", x.comes(0, -1), -1);
        Due.is(12, "bestFigure(1)", x.bestFigure(1), -1);
        Due.is(12, "bestFigure(-1)", x.bestFigure(-1), -1);
    }

    private static void bestFigures() {
        String[] works = {"w100 10 5;", "w300 20 9;w600 30 2;", "w65 0 9;", "w719 59 1;"};
        String[] rests = {"-20 0;", "-7 0;", "+0 0;", "+20 0;", "-20 59;"};
        for (String work : works) {
            for (String rest : rests) {
                LookAtClock x = Towns.of(work + "k03" + rest + "k45" + rest);
                Due.is(12, "bestFigure " + work + rest, x.bestFigure(0), bestByClocks(work, rest));
                Due.is(12, "of a BEST " + work + rest, x.bestFigure(1), bestByClocks(work, rest));
                Due.is(9, "day of a BEST " + work + rest, x.day(1, 0), leastByClocks(work, rest));
            }
        }
    }

    private static void always() {
        LookAtClock x = Towns.of("w100 10 0;k79-5 0;k00+0 0;k00+20 0;k00-20 0;k00+0 110;k00+0 95;");
        // NEVER by 4 goes when it thinks 82: at 89 (89 - 7), by 3 at 91 (91 - 7 is 84).
        Due.is(13, "always(0)", x.always(0), 4);
        Due.is(13, "always(1)", x.always(1), 0);
        Due.is(13, "always(2)", x.always(2), 0);
        Due.is(13, "always(3)", x.always(3), -4);
        Due.is(13, "left out", x.always(4), 0);
        Due.is(13, "LATE without pence is LATE", x.always(5), -4);
        Due.is(13, "always(6)", x.always(6), -1);
        Due.is(13, "always(-1)", x.always(-1), -1);
    }

    private static void pays() {
        LookAtClock x = Towns.of("w100 10 5;k22-20 0;k00-20 0;k20+0 0;k13-20 0;");
        Due.is(14, "a CLOCK", x.pays(0), 220 - 146);
        Due.is(14, "a LOOKER", x.pays(1), 0);
        Due.is(14, "below 0", x.pays(2), -1);
        Due.is(14, "a NEVER", x.pays(3), 45);
        Due.is(14, "pays(4)", x.pays(4), BELOW);
        Due.is(14, "pays(-1)", x.pays(-1), BELOW);
    }

    private static void bestKinds() {
        LookAtClock x = Towns.of("w100 10 5;k22+0 0;k09-5 0;k00-20 0;k09-20 0;");
        Due.is(15, "all cost nothing", x.bestKind(0), 0);
        Due.is(15, "a NEVER in time", x.bestKind(1), 1);
        Due.is(15, "a BEST", x.bestKind(2), 4);
        Due.is(15, "bestKind(3)", x.bestKind(3), bestOfKinds("w100 10 5;", "9-20 0;"));
        LookAtClock y = Towns.of("w100 10 5;p80;k00-20 0;k20+0 0;");
        Due.is(15, "a TOLD", y.bestKind(0), bestOfKinds("w100 10 5;p80;", "0-20 0;"));
        Due.is(15, "bestKind(2)", y.bestKind(2), -1);
        Due.is(15, "bestKind(-1)", y.bestKind(-1), -1);
    }

    private static int bestOfKinds(String works, String rest) {
        int best = 0;
        for (int kind = 1; kind < 8; kind++) {
            if (Towns.of(works + "k" + kind + rest).day(0, 0) < Towns.of(works + "k" + best + rest).day(0, 0)) best = kind;
        }
        return best;
    }

    private static void edges() {
        LookAtClock x = Towns.of("w100 10 0;w300 10 1;k09-5 0;k00+0 0;k00+0 101;k00+0 95;k79-20 0;");
        Due.is(16, "in time by 0", x.edge(1, 0), 0);
        Due.is(16, "left out", x.edge(2, 0), 0);
        Due.is(16, "behind AT without pence", x.edge(3, 0), -4);
        Due.is(16, "the second", x.edge(3, 1), 0);
        Due.is(16, "edge(0, 0)", x.edge(0, 0), edgeByClocks("-5 0;", 0));
        Due.is(16, "edge(0, 1)", x.edge(0, 1), edgeByClocks("-5 0;", 1));
        Due.is(16, "edge(4, 0)", x.edge(4, 0), edgeByClocks("-20 0;", 0));
        Due.is(16, "edge(4, 1)", x.edge(4, 1), edgeByClocks("-20 0;", 1));
        Due.is(16, "edge(5, 0)", x.edge(5, 0), -1);
        Due.is(16, "edge(-1, 0)", x.edge(-1, 0), -1);
        Due.is(16, "edge(0, 2)", x.edge(0, 2), -1);
        Due.is(16, "edge(0, -1)", x.edge(0, -1), -1);
    }

    private static int edgeByClocks(String rest, int work) {
        for (int figure = 0; figure <= 9; figure++) {
            LookAtClock x = Towns.of("w100 10 0;w300 10 1;k2" + figure + rest);
            if (x.comes(0, work) <= x.work(work, 0)) return figure;
        }
        return -4;
    }

    private static void waits() {
        LookAtClock x = new LookAtClock();
        Due.is(17, "at once", x.waits(0, 12), 0);
        Due.is(17, "past the twelfth hour", x.waits(0, 11), 60);
        Due.is(17, "from the last minute of it", x.waits(59, 1), 1);
        Due.is(17, "never again", x.waits(120, 1), -4);
        Due.is(17, "the last minute", x.waits(719, 11), 0);
        Due.is(17, "the last minute, dear", x.waits(719, 10), -4);
        Due.is(17, "for nothing", x.waits(0, 0), -4);
        Due.is(17, "for 20", x.waits(5, 20), 0);
        x.law(1);
        Due.is(17, "by tens", x.waits(310, 5), -4);
        Due.is(17, "till the next hour", x.waits(310, 6), 0);
        Due.is(17, "a later hour is cheaper", x.waits(350, 6), 10);
        Due.is(17, "waits(-1, 5)", x.waits(-1, 5), -1);
        Due.is(17, "waits(720, 5)", x.waits(720, 5), -1);
        Due.is(17, "waits(0, -1)", x.waits(0, -1), -1);
        Due.is(17, "waits(0, 21)", x.waits(0, 21), -1);
    }
}

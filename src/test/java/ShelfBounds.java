/** The bounds that the document's terms name for SKILLS, the PLAN, SHELVES and ROWS; a test for each sentence. */
final class ShelfBounds {
    private static final long BAD_ARGUMENT = 1000000001;
    private static final long BAD_STATE = 1000000002;

    private ShelfBounds() {
    }

    static void run() {
        skills();
        plan();
        shelves();
        oneThingAtATime();
        sorts();
        sizes();
        zeroAtFirst();
        lowestBits();
        nothingHeld();
        otherKind();
        noPlace();
        belowSize();
        noFailure();
    }

    private static void skills() {
        Due.says("SKILL of a LOOKER: LOOKER 1; NEVER a LOOKER's and FIGURE; CLOCK a LOOKER's and 4; CHEAP a CLOCK's times FIGURE; "
            + "BEST three times a CLOCK's; SHARE a CLOCK's less 2; TOLD a LOOKER's less 1; SELLER a CHEAP's and 9.");
        int[] byZero = {1, 1, 5, 0, 15, 3, 0, 9};
        int[] byNine = {1, 10, 5, 45, 15, 3, 0, 54};
        for (int kind = 0; kind < 8; kind++) {
            LookAtClock x = Towns.of("k" + kind + "0+0 0;k" + kind + "9-20 719;");
            x.keep(0, 1, 0);
            x.keep(7, 1, 1);
            Due.is(38, "KIND " + kind + " by FIGURE 0", x.skill(0), byZero[kind]);
            Due.is(38, "KIND " + kind + " by FIGURE 9", x.skill(7), byNine[kind]);
        }
    }

    private static void plan() {
        Due.says("THE PLAN: up to 8 MINUTES.");
        LookAtClock x = Towns.of("w719 0 1;k60+0 0;p0;p2;p3;p4;p5;p6;p7;");
        Due.is(2, "an eighth and a ninth", Towns.read(x, "p8;p719;"), -2003);
        Due.is(32, "neither came", x.count(2), 7);
        Due.is(2, "an eighth", Towns.read(x, "p8;"), 1);
        Due.is(2, "a ninth", Towns.read(x, "p9;"), -2000);
        Due.is(32, "eight", x.count(2), 8);
        Days.looks(x, 0, 0, 2, 3, 4, 5, 6, 7, 8);
        Due.is(2, "nine in one text", Towns.read(new LookAtClock(), "p0;p1;p2;p3;p4;p5;p6;p7;p8;"), -2024);
        LookAtClock y = new LookAtClock();
        Due.is(32, "none at first", y.count(2), 0);
        Due.is(2, "no MINUTE", Towns.read(y, "p720;"), -2000);
        Due.is(2, "the greatest MINUTE", Towns.read(y, "p719;"), 1);
        Due.is(2, "none is later", Towns.read(y, "p718;"), -2000);
    }

    private static void shelves() {
        Due.says("SHELVES 0 .. 7 each hold nothing (at first), a LOOKER, a ROW.");
        LookAtClock x = new LookAtClock();
        for (int d = 0; d < 8; d++) {
            Due.is(38, "at first, skill(" + d + ")", x.skill(d), -11);
            Due.is(35, "at first, put(" + d + ", 0, 0)", x.put(d, 0, 0), -11);
        }
        for (int d = 0; d < 8; d++) {
            Due.is(34, "row(" + d + ", 2, 1)", x.row(d, 2, 1), 0);
            Due.is(35, "put(" + d + ", 0, 9)", x.put(d, 0, 9 + d), 0);
        }
        for (int d = 0; d < 8; d++) Due.is(36, "element(" + d + ", 0)", Towns.elementOf(x, d, 0), 9 + d);
        Towns.read(x, "k09+0 0;k19+0 0;k29+0 0;");
        for (int d = 0; d < 8; d++) Due.is(33, "keep(" + d + ", 1, 1)", x.keep(d, 1, 1), 0);
        for (int d = 0; d < 8; d++) Due.is(38, "skill(" + d + ")", x.skill(d), 10);
        Due.is(33, "keep(7, 0, 0)", x.keep(7, 0, 0), 0);
        Due.is(38, "nothing again", x.skill(7), -11);
        Due.is(38, "the one ahead of it stays", x.skill(6), 10);
        for (int d : new int[] {Integer.MIN_VALUE, -1, 8, Integer.MAX_VALUE}) {
            Due.is(33, "keep(" + d + ", 0, 0)", x.keep(d, 0, 0), -1);
            Due.is(34, "row(" + d + ", 0, 0)", x.row(d, 0, 0), -1);
            Due.is(38, "skill(" + d + ")", x.skill(d), -1);
        }
    }

    private static void oneThingAtATime() {
        Due.says("each hold nothing (at first), a LOOKER, a ROW.");
        LookAtClock x = Towns.of("k29+0 0;");
        x.keep(0, 1, 0);
        x.row(0, 2, 2);
        Due.is(38, "a ROW in place of a LOOKER, skill(0)", x.skill(0), -12);
        Due.is(39, "a ROW in place of a LOOKER, toss(0)", x.toss(0), -12);
        x.put(0, 0, 8);
        x.keep(0, 1, 0);
        Due.is(36, "a LOOKER in place of a ROW, element(0, 0)", Towns.elementOf(x, 0, 0), BAD_STATE);
        Due.is(35, "a LOOKER in place of a ROW, put(0, 0, 9)", x.put(0, 0, 9), -12);
        Due.is(38, "a LOOKER in place of a ROW, skill(0)", x.skill(0), 5);
        x.row(0, 1, 1);
        Due.is(36, "a new ROW in place of it", Towns.elementOf(x, 0, 0), 0);
        Due.is(36, "of its own size", Towns.elementOf(x, 0, 1), BAD_STATE);
        Due.is(33, "keep(0, 0, 0)", x.keep(0, 0, 0), 0);
        Due.is(36, "nothing in place of a ROW", Towns.elementOf(x, 0, 0), BAD_STATE);
    }

    private static void sorts() {
        Due.says("A ROW has a SORT (0 bytes, 1 shorts, 2 ints)");
        LookAtClock x = new LookAtClock();
        for (int sort = 0; sort < 3; sort++) Due.is(34, "row(0, " + sort + ", 1)", x.row(0, sort, 1), 0);
        Due.is(35, "put(0, 0, 70000)", x.put(0, 0, 70000), 0);
        for (int sort : new int[] {-1, 3, Integer.MIN_VALUE, Integer.MAX_VALUE}) {
            Due.is(34, "row(0, " + sort + ", 1)", x.row(0, sort, 1), -1);
        }
        Due.is(36, "the one of ints stays", Towns.elementOf(x, 0, 0), 70000);
    }

    private static void sizes() {
        Due.says("0 .. 100 elements");
        for (int sort = 0; sort < 3; sort++) {
            LookAtClock x = new LookAtClock();
            Due.is(34, "the least size", x.row(0, sort, 0), 0);
            Due.is(35, "no element in it", x.put(0, 0, 1), -13);
            Due.is(36, "none to be read", Towns.elementOf(x, 0, 0), BAD_STATE);
            Due.is(34, "the greatest size", x.row(0, sort, 100), 0);
            Due.is(35, "the last of it", x.put(0, 99, 1), 0);
            Due.is(36, "the last is read", Towns.elementOf(x, 0, 99), 1);
            Due.is(35, "none behind it", x.put(0, 100, 1), -13);
            Due.is(36, "none behind it to be read", Towns.elementOf(x, 0, 100), BAD_STATE);
            Due.is(34, "one more", x.row(0, sort, 101), -1);
            Due.is(34, "the greatest number", x.row(0, sort, Integer.MAX_VALUE), -1);
            Due.is(36, "it is as it was", Towns.elementOf(x, 0, 99), 1);
        }
    }

    private static void zeroAtFirst() {
        Due.says("0 .. 100 elements, 0 at first");
        LookAtClock x = new LookAtClock();
        x.row(0, 2, 100);
        for (int i = 0; i < 100; i++) Due.is(36, "element(0, " + i + ")", Towns.elementOf(x, 0, i), 0);
        for (int i = 0; i < 100; i++) x.put(0, i, i + 1);
        x.row(0, 1, 50);
        for (int i = 0; i < 50; i++) Due.is(36, "of a new one, element(0, " + i + ")", Towns.elementOf(x, 0, i), 0);
        Due.is(36, "of a new one, behind its end", Towns.elementOf(x, 0, 50), BAD_STATE);
        x.row(0, 2, 100);
        for (int i = 0; i < 100; i++) Due.is(36, "of the next, element(0, " + i + ")", Towns.elementOf(x, 0, i), 0);
    }

    private static void lowestBits() {
        Due.says("what is put in keeps its lowest bits.");
        int[] values = {0, -1, 127, 128, -128, -129, 255, 256, 32767, 32768, -32768, -32769, 65535, 65536,
            Integer.MAX_VALUE, Integer.MIN_VALUE};
        int[] bytes = {0, -1, 127, -128, -128, 127, -1, 0, -1, 0, 0, -1, -1, 0, -1, 0};
        int[] shorts = {0, -1, 127, 128, -128, -129, 255, 256, 32767, -32768, -32768, 32767, -1, 0, -1, 0};
        LookAtClock x = new LookAtClock();
        x.row(0, 0, 1);
        x.row(1, 1, 1);
        x.row(2, 2, 1);
        for (int i = 0; i < values.length; i++) {
            for (int d = 0; d < 3; d++) Due.is(35, "put(" + d + ", 0, " + values[i] + ")", x.put(d, 0, values[i]), 0);
            Due.is(36, values[i] + " as a byte", Towns.elementOf(x, 0, 0), bytes[i]);
            Due.is(36, values[i] + " as a short", Towns.elementOf(x, 1, 0), shorts[i]);
            Due.is(36, values[i] + " as an int", Towns.elementOf(x, 2, 0), values[i]);
        }
    }

    private static void nothingHeld() {
        Due.says("-11 nothing is held where something is wanted");
        LookAtClock x = Towns.of("k09+0 0;");
        x.row(1, 0, 1);
        for (int time = 0; time < 2; time++) {
            Due.is(2, "town(0)", x.town(0), -11);
            Due.is(18, "learn(0, 0)", x.learn(0, 0), -11);
            Due.is(29, "judge(0, 0)", x.judge(0, 0), -11);
            Due.is(35, "put(0, 0, 0)", x.put(0, 0, 0), -11);
            Due.is(37, "copy from nothing", x.copy(0, 0, 1, 0, 1), -11);
            Due.is(37, "copy to nothing", x.copy(1, 0, 0, 0, 1), -11);
            Due.is(38, "skill(0)", x.skill(0), -11);
            Due.is(39, "toss(0)", x.toss(0), -11);
            Due.is(36, "element(0, 0)", Towns.elementOf(x, 0, 0), BAD_STATE);
            // Once more where a looker and a row were, and are no more.
            x.keep(0, 1, 0);
            x.row(0, 0, 1);
            x.keep(0, 0, 0);
        }
    }

    private static void otherKind() {
        Due.says("-12 it is of another kind");
        LookAtClock x = Towns.of("k09+0 0;");
        x.keep(0, 1, 0);
        x.row(1, 0, 3);
        x.row(2, 1, 3);
        x.row(3, 2, 3);
        Due.is(2, "town of a LOOKER", x.town(0), -12);
        Due.is(2, "town of shorts", x.town(2), -12);
        Due.is(2, "town of ints", x.town(3), -12);
        Due.is(18, "learn by a LOOKER", x.learn(0, 0), -12);
        Due.is(18, "learn by bytes", x.learn(1, 0), -12);
        Due.is(18, "learn by shorts", x.learn(2, 0), -12);
        Due.is(29, "judge by a LOOKER", x.judge(0, 0), -12);
        Due.is(35, "put into a LOOKER", x.put(0, 0, 1), -12);
        Due.is(36, "element of a LOOKER", Towns.elementOf(x, 0, 0), BAD_STATE);
        Due.is(37, "copy of a LOOKER", x.copy(0, 0, 1, 0, 1), -12);
        Due.is(37, "copy to a LOOKER", x.copy(1, 0, 0, 0, 1), -12);
        for (int d = 1; d < 4; d++) {
            Due.is(38, "skill of a ROW", x.skill(d), -12);
            Due.is(39, "toss of a ROW", x.toss(d), -12);
            Due.is(37, "copy to another SORT", x.copy(d, 0, d % 3 + 1, 0, 1), -12);
        }
    }

    private static void noPlace() {
        Due.says("-13 a place that isn't there (a number or a size that isn't as told, too)");
        LookAtClock x = new LookAtClock();
        Towns.putRow(x, 0, 2, 1, 2, 3, 4);
        Due.is(35, "put ahead of all", x.put(0, -1, 9), -13);
        Due.is(35, "put behind the last", x.put(0, 4, 9), -13);
        Due.is(35, "put far behind", x.put(0, Integer.MAX_VALUE, 9), -13);
        Due.is(35, "put far ahead", x.put(0, Integer.MIN_VALUE, 9), -13);
        Due.is(36, "element ahead of all", Towns.elementOf(x, 0, -1), BAD_STATE);
        Due.is(36, "element behind the last", Towns.elementOf(x, 0, 4), BAD_STATE);
        Due.is(36, "no SHELF, no place", Towns.elementOf(x, 8, 4), BAD_ARGUMENT);
        Due.is(37, "copy behind the last", x.copy(0, 4, 0, 0, 1), -13);
        Due.is(37, "a size below 0", x.copy(0, 0, 0, 0, -1), -13);
        Due.is(18, "a size that isn't as told", x.learn(0, 0), -13);
        Towns.putRow(x, 0, 2, 5, 5, 5);
        Due.is(18, "a number that isn't as told", x.learn(0, 0), -13);
    }

    private static void belowSize() {
        Due.says("-14 a size below 0");
        LookAtClock x = new LookAtClock();
        Towns.putRow(x, 0, 2, 77);
        for (int sort = 0; sort < 3; sort++) {
            Due.is(34, "row(0, " + sort + ", -1)", x.row(0, sort, -1), -14);
            Due.is(34, "row(0, " + sort + ", least)", x.row(0, sort, Integer.MIN_VALUE), -14);
        }
        Due.is(36, "the ROW stays", Towns.elementOf(x, 0, 0), 77);
        Due.is(34, "row(0, 2, 0)", x.row(0, 2, 0), 0);
    }

    private static void noFailure() {
        Due.says("-15 a FAILURE that is none.");
        for (int kind = 0; kind < 8; kind++) {
            LookAtClock x = Towns.of("k" + kind + "1+0 0;k" + kind + "0+0 0;");
            x.keep(0, 1, 0);
            x.keep(1, 1, 1);
            Due.is(39, "KIND " + kind + " by FIGURE 0", x.toss(1), -15);
            int due = kind == 6 ? -15 : kind == 4 ? 100 : kind == 7 ? 214 : 0;
            Due.is(39, "KIND " + kind + " by FIGURE 1", x.toss(0), due);
        }
    }
}

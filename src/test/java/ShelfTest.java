/** Promises 33 to 39: shelves. */
final class ShelfTest {
    private static final long BAD_ARGUMENT = 1000000001;
    private static final long BAD_STATE = 1000000002;
    private static final String ALL_KINDS = "k02+0 0;k13+0 0;k24+0 0;k35+0 0;k46+0 0;k57+0 0;";

    private ShelfTest() {
    }

    static void run() {
        keeping();
        rows();
        putting();
        elements();
        copies();
        copyRefusals();
        skills();
        tosses();
    }

    private static void keeping() {
        LookAtClock x = Towns.of("k02+0 0;");
        Due.is(33, "keep(0, 1, 0)", x.keep(0, 1, 0), 0);
        Due.is(33, "it is there", x.skill(0), 1);
        Due.is(33, "nobody", x.keep(0, 1, 1), -1);
        Due.is(33, "nobody below", x.keep(0, 1, -1), -1);
        Due.is(33, "what 2", x.keep(0, 2, 0), -1);
        Due.is(33, "what -1", x.keep(0, -1, 0), -1);
        Due.is(33, "no shelf", x.keep(8, 1, 0), -1);
        Due.is(33, "no shelf below", x.keep(-1, 0, 0), -1);
        Due.is(33, "it is still there", x.skill(0), 1);
        Due.is(33, "nothing, whatever else", x.keep(0, 0, 99), 0);
        Due.is(33, "it is gone", x.skill(0), -11);
        x.row(7, 2, 3);
        Due.is(33, "in place of a row", x.keep(7, 1, 0), 0);
        Due.is(33, "no row any more", x.put(7, 0, 1), -12);
    }

    private static void rows() {
        LookAtClock x = Towns.of("k02+0 0;");
        Due.is(34, "row(0, 0, 0)", x.row(0, 0, 0), 0);
        Due.is(34, "row(0, 2, 100)", x.row(0, 2, 100), 0);
        Due.is(34, "its last", x.put(0, 99, 5), 0);
        Due.is(34, "101", x.row(0, 2, 101), -1);
        Due.is(34, "-1", x.row(0, 2, -1), -14);
        Due.is(34, "no shelf", x.row(8, 2, 1), -1);
        Due.is(34, "no shelf ahead of no size", x.row(-1, 2, -1), -1);
        Due.is(34, "no sort", x.row(0, 3, 1), -1);
        Due.is(34, "no sort ahead of no size", x.row(0, -1, -1), -1);
        Due.is(34, "all as it was", Towns.elementOf(x, 0, 99), 5);
        Due.is(34, "a new one", x.row(0, 2, 100), 0);
        Due.is(34, "holds 0", Towns.elementOf(x, 0, 99), 0);
        x.keep(0, 1, 0);
        Due.is(34, "in place of a looker", x.row(0, 1, 2), 0);
        Due.is(34, "no looker any more", x.skill(0), -12);
    }

    private static void putting() {
        LookAtClock x = Towns.of("k02+0 0;");
        Due.is(35, "nothing held", x.put(0, 0, 1), -11);
        int[][] values = {{300, 44}, {128, -128}, {-129, 127}, {255, -1}, {-128, -128}};
        for (int[] v : values) {
            x.row(0, 0, 1);
            Due.is(35, "put", x.put(0, 0, v[0]), 0);
            Due.is(35, v[0] + " as a byte", Towns.elementOf(x, 0, 0), v[1]);
        }
        x.row(0, 1, 2);
        x.put(0, 0, 70000);
        x.put(0, 1, 32768);
        Due.is(35, "70000 as a short", Towns.elementOf(x, 0, 0), 4464);
        Due.is(35, "32768 as a short", Towns.elementOf(x, 0, 1), -32768);
        x.row(0, 2, 1);
        x.put(0, 0, Integer.MIN_VALUE);
        Due.is(35, "an int", Towns.elementOf(x, 0, 0), Integer.MIN_VALUE);
        Due.is(35, "behind the end", x.put(0, 1, 1), -13);
        Due.is(35, "ahead of all", x.put(0, -1, 1), -13);
        Due.is(35, "no shelf", x.put(8, 0, 1), -1);
        Due.is(35, "no shelf below", x.put(-1, 0, 1), -1);
        x.keep(0, 1, 0);
        Due.is(35, "a looker", x.put(0, 0, 1), -12);
    }

    private static void elements() {
        LookAtClock x = Towns.of("k02+0 0;");
        Due.is(36, "no shelf", Towns.elementOf(x, 8, 0), BAD_ARGUMENT);
        Due.is(36, "no shelf below", Towns.elementOf(x, -1, 0), BAD_ARGUMENT);
        Due.is(36, "nothing held", Towns.elementOf(x, 0, 0), BAD_STATE);
        x.keep(0, 1, 0);
        Due.is(36, "a looker", Towns.elementOf(x, 0, 0), BAD_STATE);
        Towns.putRow(x, 0, 2, -7, 8);
        Due.is(36, "the first", Towns.elementOf(x, 0, 0), -7);
        Due.is(36, "the last", Towns.elementOf(x, 0, 1), 8);
        Due.is(36, "behind the end", Towns.elementOf(x, 0, 2), BAD_STATE);
        Due.is(36, "ahead of all", Towns.elementOf(x, 0, -1), BAD_STATE);
    }

    private static void elementsAre(LookAtClock x, int d, int... due) {
        for (int i = 0; i < due.length; i++) Due.is(37, "element(" + d + ", " + i + ")", Towns.elementOf(x, d, i), due[i]);
    }

    private static void copies() {
        LookAtClock x = new LookAtClock();
        Towns.putRow(x, 0, 1, 1, 2, 3, 4, 5);
        Towns.putRow(x, 1, 1, 6, 7, 8);
        Due.is(37, "between two", x.copy(0, 3, 1, 1, 2), 2);
        elementsAre(x, 1, 6, 4, 5);
        elementsAre(x, 0, 1, 2, 3, 4, 5);
        Due.is(37, "to its own behind", x.copy(0, 0, 0, 1, 4), 4);
        elementsAre(x, 0, 1, 1, 2, 3, 4);
        Due.is(37, "to its own ahead", x.copy(0, 1, 0, 0, 4), 4);
        elementsAre(x, 0, 1, 2, 3, 4, 4);
        Due.is(37, "all of it", x.copy(1, 0, 0, 2, 3), 3);
        elementsAre(x, 0, 1, 2, 6, 4, 5);
        Due.is(37, "all to all", x.copy(1, 0, 1, 0, 3), 3);
        Due.is(37, "none, at the ends", x.copy(0, 5, 1, 3, 0), 0);
        elementsAre(x, 1, 6, 4, 5);
    }

    private static void copyRefusals() {
        LookAtClock x = Towns.of("k02+0 0;");
        Towns.putRow(x, 0, 1, 1, 2, 3);
        Towns.putRow(x, 1, 1, 4, 5, 6);
        x.row(2, 2, 3);
        x.keep(3, 1, 0);
        int[][] calls = {{8, 0, 0, 0, 1, -1}, {0, 0, 8, 0, 1, -1}, {-1, 0, 0, 0, 1, -1}, {4, 0, 9, 0, 1, -1},
            {4, 0, 0, 0, 1, -11}, {0, 0, 4, 0, 1, -11}, {3, 0, 4, 0, 1, -11},
            {3, 0, 0, 0, 1, -12}, {0, 0, 3, 0, 1, -12}, {0, 0, 2, 0, 1, -12}, {0, 9, 2, 0, 1, -12},
            {0, 0, 1, 0, 4, -13}, {0, 1, 1, 0, 3, -13}, {0, 0, 1, 1, 3, -13}, {0, -1, 1, 0, 1, -13},
            {0, 0, 1, -1, 1, -13}, {0, 0, 1, 0, -1, -13}, {0, 4, 1, 0, 0, -13}, {0, 0, 1, 4, 0, -13},
            {0, Integer.MAX_VALUE, 1, 0, 2, -13}, {0, 2, 1, 2, Integer.MAX_VALUE, -13},
            {0, Integer.MIN_VALUE, 1, 0, Integer.MIN_VALUE, -13}};
        for (int[] c : calls) {
            Due.is(37, "copy(" + c[0] + ", " + c[1] + ", " + c[2] + ", " + c[3] + ", " + c[4] + ")",
                x.copy(c[0], c[1], c[2], c[3], c[4]), c[5]);
        }
        elementsAre(x, 0, 1, 2, 3);
        elementsAre(x, 1, 4, 5, 6);
        x.row(5, 1, 3);
        x.keep(5, 1, 0);
        Due.is(37, "a looker where a row was", x.copy(0, 0, 5, 0, 1), -12);
        Due.is(37, "from where a row was", x.copy(5, 0, 0, 0, 1), -12);
    }

    private static void skills() {
        LookAtClock x = Towns.of(ALL_KINDS);
        int[] due = {1, 4, 5, 25, 15, 3};
        for (int k = 0; k < 6; k++) {
            x.keep(k, 1, k);
            Due.is(38, "of KIND " + k, x.skill(k), due[k]);
        }
        LookAtClock y = Towns.of("k68+0 0;k79+0 0;k70+0 0;k30+0 0;k10+0 0;");
        int[] others = {0, 54, 9, 0, 1};
        for (int k = 0; k < others.length; k++) {
            y.keep(0, 1, k);
            Due.is(38, "of the other " + k, y.skill(0), others[k]);
        }
        Due.is(38, "no shelf", x.skill(8), -1);
        Due.is(38, "no shelf below", x.skill(-1), -1);
        Due.is(38, "nothing held", x.skill(6), -11);
        x.row(6, 0, 0);
        Due.is(38, "a row", x.skill(6), -12);
    }

    private static void tosses() {
        LookAtClock x = Towns.of(ALL_KINDS);
        int[] due = {0, 1, 2, 3, 104, 5};
        for (int k = 0; k < 6; k++) {
            x.keep(k, 1, k);
            Due.is(39, "of KIND " + k, x.toss(k), due[k]);
        }
        LookAtClock y = Towns.of("k68+0 0;k79+0 0;k71+0 0;k49+0 0;");
        int[] others = {-15, 254, 214, 103};
        for (int k = 0; k < others.length; k++) {
            y.keep(0, 1, k);
            Due.is(39, "of the other " + k, y.toss(0), others[k]);
        }
        for (int kind = 0; kind < 8; kind++) {
            LookAtClock z = Towns.of("k" + kind + "0+0 0;");
            z.keep(5, 1, 0);
            Due.is(39, "without FIGURE, of KIND " + kind, z.toss(5), -15);
        }
        Due.is(39, "no shelf", x.toss(8), -1);
        Due.is(39, "no shelf below", x.toss(-1), -1);
        Due.is(39, "nothing held", x.toss(6), -11);
        x.row(6, 0, 0);
        Due.is(39, "a row", x.toss(6), -12);
    }
}

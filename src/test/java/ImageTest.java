/** Promises 30 to 32: the image, and what is counted. */
final class ImageTest {
    private ImageTest() {
    }

    static void run() {
        imageOfAll();
        shelvesStay();
        counts();
    }

    private static void imageOfAll() {
        LookAtClock x = Towns.of("w100 10 5;k22-20 0;l1;p7;");
        Due.is(31, "none yet", x.restore(), -3);
        Due.is(30, "image()", x.image(), 1);
        Towns.read(x, "w200 20 1;k00+3 5;l2;p8;");
        Due.is(31, "restore()", x.restore(), 1);
        Due.is(31, "count(0)", x.count(0), 1);
        Due.is(31, "count(1)", x.count(1), 1);
        Due.is(31, "count(2)", x.count(2), 1);
        Due.is(31, "count(3)", x.count(3), 10);
        Due.is(31, "count(4)", x.count(4), 1);
        Due.is(31, "a day", x.day(0, 0), 145 + 6);
        Due.is(31, "the second is gone", x.looker(1, 0), -1);
        Towns.read(x, "w150 1 1;k77+7 7;k66+6 6;p9;");
        Due.is(31, "again", x.restore(), 1);
        Due.is(31, "drift(0)", x.drift(0), -20);
        Due.is(31, "another comes in its place", Towns.read(x, "w101 1 1;k11+1 1;p8;"), 3);
        Due.is(31, "its KIND", x.looker(1, 0), 1);
        Due.is(30, "another image", x.image(), 2);
        x.law(0);
        Due.is(31, "the newer one", x.restore(), 2);
        Due.is(31, "its law", x.count(4), 1);
        LookAtClock none = new LookAtClock();
        Due.is(30, "of nobody", none.image(), 0);
        Towns.read(none, "w1 1 1;k00+0 0;p1;l2;");
        Due.is(31, "to nobody", none.restore(), 0);
        Due.is(31, "no WORKS", none.count(0) + none.count(2) + none.count(4), 0);
    }

    private static void shelvesStay() {
        LookAtClock x = new LookAtClock();
        x.image();
        Towns.read(x, "k00+0 0;k15+0 0;");
        x.keep(0, 1, 1);
        Towns.putRow(x, 1, 2, 77);
        x.restore();
        Due.is(31, "a looker stays on its shelf", x.skill(0), 6);
        Due.is(31, "with its number", x.toss(0), 1);
        Due.is(31, "a row stays", Towns.elementOf(x, 1, 0), 77);
        Towns.read(x, "k49+0 0;k49+0 0;");
        Due.is(31, "it is still the same one", x.skill(0), 6);
    }

    private static void counts() {
        LookAtClock x = Towns.of("w100 10 5;w200 59 5;w300 1 0;k22-20 0;k00+0 0;l2;p7;p8;p9;p10;");
        Due.is(32, "WORKS", x.count(0), 3);
        Due.is(32, "LOOKERS", x.count(1), 2);
        Due.is(32, "the PLAN", x.count(2), 4);
        Due.is(32, "all WALKS", x.count(3), 70);
        Due.is(32, "THE LAW", x.count(4), 2);
        Due.is(32, "count(5)", x.count(5), -1);
        Due.is(32, "count(-1)", x.count(-1), -1);
    }
}

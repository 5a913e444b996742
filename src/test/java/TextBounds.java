/** The bounds that the document names for a TOWN's text; a test for each sentence. */
final class TextBounds {
    private TextBounds() {
    }

    static void run() {
        endsOfStatements();
        workStatements();
        lookerStatements();
        lawStatements();
        planStatements();
        digits();
        noLeadingZero();
        atLeastOne();
        fullTexts();
        firstWrongByte();
        everyByteAtEveryPlace();
        endsTooEarly();
        firstWrongStatement();
        sizeOfFaults();
        allOrNothing();
        formGoesAhead();
        oneBehindTheOther();
        theRowStays();
    }

    private static void faults(int kind, Object... textsAndPlaces) {
        for (int i = 0; i < textsAndPlaces.length; i += 2) {
            LookAtClock x = new LookAtClock();
            int place = (Integer) textsAndPlaces[i + 1];
            Due.is(2, "\"" + textsAndPlaces[i] + "\"", Towns.read(x, (String) textsAndPlaces[i]), -1000 * kind - place);
            Due.is(32, "nothing came", x.count(0) + x.count(1) + x.count(2) + x.count(4), 0);
        }
    }

    private static void reads(String... texts) {
        for (String text : texts) Due.is(2, "\"" + text + "\"", Towns.read(new LookAtClock(), text), 1);
    }

    private static void endsOfStatements() {
        Due.says("A TOWN is read from bytes: STATEMENTS, each with ; behind");
        faults(1, "l1", 2, "w1 1 1", 6, "k00+0 0", 7, "p1", 2, "l1;l1", 5, ";", 0, "l1;;", 3, ";l1;", 0, "l1,", 2, "l1 ;", 2, "l1; l1;", 3,
            "l1;p1 ;", 5);
        reads("l1;", "w1 1 1;", "k00+0 0;", "p1;");
        Due.is(2, "two", Towns.read(new LookAtClock(), "l1;l1;"), 2);
    }

    private static void workStatements() {
        Due.says("w, AT, a blank, WALK, a blank, LATE (a digit): a WORK more");
        faults(1, "w", 1, "w;", 1, "w 1 1;", 1, "w1;", 2, "w1  1 1;", 3, "w1 ;", 3, "w1 1;", 4, "w1 1  1;", 5, "w1 1 ;", 5, "w1 1 12;", 6,
            "w1 1 1 ;", 6, "w-1 1 1;", 1, "w1 -1 1;", 3, "w1 1 -1;", 5, "W1 1 1;", 0, "w1-1 1;", 2);
        LookAtClock x = Towns.of("w0 0 0;w719 59 9;");
        Due.is(5, "AT", x.work(1, 0), 719);
        Due.is(5, "WALK", x.work(1, 1), 59);
        Due.is(5, "LATE", x.work(1, 2), 9);
    }

    private static void lookerStatements() {
        Due.says("k, KIND, FIGURE (digits), + or -, DRIFT, a blank, WAKE: a LOOKER more");
        faults(1, "k", 1, "k;", 1, "k0;", 2, "k0+0 0;", 2, "k00;", 3, "k000 0;", 3, "k00 0 0;", 3, "k00+;", 4, "k00++0 0;", 4, "k00+-1 0;", 4,
            "k00+ 0;", 4, "k00+0;", 5, "k00+0  0;", 6, "k00+0 ;", 6, "k00+0 +1;", 6, "k00+0 -1;", 6, "k00*0 0;", 3, "k-0+0 0;", 1);
        LookAtClock x = Towns.of("k79-20 719;k00+20 0;k00-0 0;k00+0 0;");
        int[] of = {7, 9, 719};
        for (int what = 0; what < 3; what++) Due.is(6, "looker(0, " + what + ")", x.looker(0, what), of[what]);
        int[] drifts = {-20, 20, 0, 0};
        for (int k = 0; k < 4; k++) Due.is(7, "drift(" + k + ")", x.drift(k), drifts[k]);
    }

    private static void lawStatements() {
        Due.says("l, LAW (a digit)");
        faults(1, "l", 1, "l;", 1, "l-1;", 1, "l00;", 2, "l12;", 2);
        faults(2, "l3;", 0, "l9;", 0);
        LookAtClock x = Towns.of("l1;l2;");
        Due.is(32, "the last told", x.count(4), 2);
        Due.is(2, "the least", Towns.read(x, "l0;"), 1);
        Due.is(32, "it came", x.count(4), 0);
    }

    private static void planStatements() {
        Due.says("p, a MINUTE: one more of the PLAN (later than all ahead).");
        faults(1, "p", 1, "p;", 1, "p-1;", 1, "p1 2;", 2);
        faults(2, "p720;", 0, "p999;", 0, "p5;p5;", 3, "p5;p4;", 3, "p719;p719;", 5, "p0;p0;", 3);
        LookAtClock x = Towns.of("p0;");
        Due.is(2, "as late as the one ahead", Towns.read(x, "p0;"), -2000);
        Due.is(2, "later by one", Towns.read(x, "p1;"), 1);
        Due.is(2, "later than the first alone", Towns.read(x, "p1;"), -2000);
        Due.is(2, "the greatest", Towns.read(x, "p719;"), 1);
        Due.is(2, "not AT, but the PLAN is to be later", Towns.read(x, "w5 0 0;"), 1);
        Due.is(32, "three MINUTES", x.count(2), 3);
    }

    private static void digits() {
        Due.says("AT, WAKE, MINUTES have 1 to 3 digits, WALK, DRIFT 1 or 2");
        reads("w1 1 1;", "w12 12 1;", "w123 1 1;", "k11+1 1;", "k11+12 12;", "k11-1 123;", "p1;", "p12;", "p123;");
        faults(1, "w1234 1 1;", 4, "w1 123 1;", 5, "k11+123 1;", 6, "k11-123 1;", 6, "k11+1 1234;", 9, "p1234;", 4, "w1000 1 1;", 4,
            "p0000;", 2);
        LookAtClock x = Towns.of("w123 45 6;k12-13 234;p345;");
        Due.is(5, "AT of three", x.work(0, 0), 123);
        Due.is(5, "WALK of two", x.work(0, 1), 45);
        Due.is(7, "DRIFT of two", x.drift(0), -13);
        Due.is(6, "WAKE of three", x.looker(0, 2), 234);
        LookAtClock y = Towns.of("w12 3 4;k12+3 45;");
        Due.is(5, "AT of two", y.work(0, 0), 12);
        Due.is(5, "WALK of one", y.work(0, 1), 3);
        Due.is(7, "DRIFT of one", y.drift(0), 3);
        Due.is(6, "WAKE of two", y.looker(0, 2), 45);
        Due.is(5, "AT of one", Towns.of("w7 0 0;").work(0, 0), 7);
        Due.is(6, "WAKE of one", Towns.of("k00+0 7;").looker(0, 2), 7);
    }

    private static void noLeadingZero() {
        Due.says("no 0 ahead of another.");
        reads("w0 0 0;", "k00+0 0;", "k00-0 0;", "p0;", "w10 10 0;", "w100 20 0;", "k00+10 100;", "p100;", "w101 0 0;", "p505;");
        faults(1, "w00 1 1;", 2, "w01 1 1;", 2, "w001 1 1;", 2, "w1 00 1;", 4, "w1 01 1;", 4, "k00+00 1;", 5, "k00+01 1;", 5, "k00-01 1;", 5,
            "k00+0 00;", 7, "k00+0 01;", 7, "k00+0 001;", 7, "p00;", 2, "p01;", 2, "p012;", 2);
    }

    private static void atLeastOne() {
        Due.says("At least one STATEMENT.");
        faults(1, "", 0);
        LookAtClock x = Towns.of("l1;");
        Due.is(2, "none, with a town there", Towns.read(x, ""), -1000);
        Due.is(32, "it stays", x.count(4), 1);
        reads("l1;");
    }

    private static void fullTexts() {
        Due.says("The text in SHELF d: how many STATEMENTS; the FAULT.");
        StringBuilder text = new StringBuilder();
        for (int i = 0; i < 32; i++) text.append("l2;");
        text.append("p10;");
        LookAtClock x = new LookAtClock();
        Due.is(2, "a hundred bytes", Towns.read(x, text.toString()), 33);
        Due.is(32, "its first", x.count(4), 2);
        Due.is(32, "its last", x.count(2), 1);
        text.setCharAt(99, '0');
        Due.is(2, "a hundred bytes that end too early", Towns.read(x, text.toString()), -1100);
        text.setLength(97);
        Due.is(2, "a p at the end", Towns.read(x, text.toString()), -1097);
        text.setLength(96);
        text.append("l3;l");
        Due.is(2, "kind 1 at the end", Towns.read(x, text.toString()), -1100);
        text.setLength(99);
        Due.is(2, "kind 2 near the end", Towns.read(x, text.toString()), -2096);
    }

    private static void firstWrongByte() {
        Due.says("kind 1 the place of the first byte with which no TOWN can go on");
        faults(1, "x", 0, "0", 0, " ", 0, "-", 0, "lx;", 1, "l1x", 2, "l1;x", 3, "wx", 1, "w1x", 2, "w1 x", 3, "w1 1x", 4, "w1 1 x", 5,
            "w1 1 1x", 6, "kx", 1, "k1x", 2, "k11x", 3, "k11+x", 4, "k11+1x", 5, "k11+1 x", 6, "k11+1 1x", 7, "px", 1, "p1x", 2,
            "xx", 0, "lxx", 1);
        LookAtClock x = new LookAtClock();
        Towns.putRow(x, 0, 0, 'l', 0);
        Due.is(2, "a 0 is no end", x.town(0), -1001);
        Towns.putRow(x, 0, 0, 'l', '1', ';', -1);
        Due.is(2, "a byte below 0", x.town(0), -1003);
        Towns.putRow(x, 0, 0, 'l' - 256, '1' + 256, ';' + 1024);
        Due.is(2, "by its lowest bits", x.town(0), 1);
        x.row(0, 0, 100);
        Due.is(2, "a hundred times 0", x.town(0), -1000);
    }

    /** Each byte put at each place of a right text, against the pattern of the texts by seeds. */
    private static void everyByteAtEveryPlace() {
        Due.says("first byte with which no TOWN can go on (the size, if it ends too early)");
        String right = "w100 10 5;k22-20 30;l1;p719;";
        for (int place = 0; place < right.length(); place++) {
            for (int from = -128; from < 128; from += 128) replaced(right, place, from);
        }
    }

    private static void replaced(String right, int place, int from) {
        LookAtClock x = new LookAtClock();
        x.law(2);
        Towns.putText(x, 0, right);
        for (int value = from; value < from + 128; value++) {
            String text = right.substring(0, place) + (char) (value & 255) + right.substring(place + 1);
            int due = TextFuzz.dueOf(text);
            if (due > 0) continue;
            x.put(0, place, value);
            Due.is(2, "\"" + text + "\"", x.town(0), due);
        }
        Due.is(32, "nothing came", x.count(0) + x.count(1) + x.count(2), 0);
    }

    private static void endsTooEarly() {
        Due.says("(the size, if it ends too early)");
        String right = "w100 10 5;k22-20 30;l1;p719;";
        int statements = 0;
        for (int size = 0; size <= right.length(); size++) {
            boolean whole = size > 0 && right.charAt(size - 1) == ';';
            if (whole) statements++;
            String text = right.substring(0, size);
            Due.is(2, "\"" + text + "\"", Towns.read(new LookAtClock(), text), whole ? statements : -1000 - size);
        }
    }

    private static void firstWrongStatement() {
        Due.says("else kind 2 the place of the letter of the first STATEMENT that isn't as told "
            + "(a number out of range, no room, a MINUTE that isn't later)");
        faults(2, "w720 1 1;", 0, "w1 60 1;", 0, "k80+0 0;", 0, "k00+21 0;", 0, "k00-21 0;", 0, "k00+0 720;", 0, "l3;", 0, "p720;", 0);
        faults(2, "w1 0 0;w2 0 0;w3 0 0;w4 0 0;w5 0 0;w6 0 0;", 35, "p1;p2;p3;p4;p5;p6;p7;p8;p9;", 24,
            "k00+0 0;k00+0 0;k00+0 0;k00+0 0;k00+0 0;k00+0 0;k00+0 0;", 48);
        faults(2, "w5 1 1;w5 1 1;", 7, "w5 1 1;l1;w4 1 1;", 10, "p5;l1;p5;", 6, "l0;l1;l2;l3;l4;", 9, "l3;w720 1 1;", 0, "p1;w720 1 1;l3;", 3);
    }

    private static void sizeOfFaults() {
        Due.says("-1000 times the kind less the place.");
        faults(1, "", 0, "l1;l1;l1;l1;x", 12);
        faults(2, "l3;", 0, "l1;l1;l1;l1;l3;", 12);
        Due.is(2, "kind 1 at 12", Towns.read(new LookAtClock(), "l1;l1;l1;l1;x"), -1012);
        Due.is(2, "kind 2 at 12", Towns.read(new LookAtClock(), "l1;l1;l1;l1;l3;"), -2012);
    }

    private static void allOrNothing() {
        Due.says("Without FAULT all of it comes; with one nothing.");
        LookAtClock x = Towns.of("w50 1 1;k11+1 1;p50;l1;");
        String[] faults = {"w60 2 2;k22+2 2;p60;l2;x", "w60 2 2;k22+2 2;p60;l2;w60 2 2;", "w60 2 2;k22+2 2;p60;l2;p60;",
            "w60 2 2;k22+2 2;p60;l2;k80+0 0;", "w60 2 2;k22+2 2;p60;l2;l3;"};
        for (String text : faults) {
            Due.is(2, "a FAULT", Towns.read(x, text), text.endsWith("x") ? -1023 : -2023);
            int[] due = {1, 1, 1, 1, 1};
            for (int what = 0; what < 5; what++) Due.is(32, "count(" + what + ")", x.count(what), due[what]);
        }
        Due.is(2, "all of it", Towns.read(x, "w60 2 2;k22+2 2;p60;l2;"), 4);
        int[] due = {2, 2, 2, 3, 2};
        for (int what = 0; what < 5; what++) Due.is(32, "count(" + what + ")", x.count(what), due[what]);
    }

    private static void formGoesAhead() {
        Due.says("kind 1 (of any place) goes ahead of kind 2");
        faults(1, "l3;x", 3, "w720 1 1;w", 10, "k80+0 0;l1", 10, "p5;p5;p", 7, "l3", 2);
    }

    private static void oneBehindTheOther() {
        Due.says("STATEMENTS are tried one behind the other, each on what those ahead of it made, "
            + "and the first that can't be done so is told.");
        LookAtClock x = Towns.of("w100 0 0;p100;");
        Due.is(2, "on what the text ahead made", Towns.read(x, "w101 0 0;p101;w101 0 0;p101;"), -2014);
        Due.is(2, "what it made is gone with it", Towns.read(x, "w101 0 0;p101;"), 2);
        Due.is(2, "the first of two", Towns.read(x, "p101;w101 0 0;"), -2000);
        Due.is(2, "the first of two, the other way", Towns.read(x, "w101 0 0;p101;"), -2000);
        Due.is(2, "the first of two behind one", Towns.read(x, "p102;w101 0 0;p102;"), -2005);
        Due.is(2, "up to full", Towns.read(x, "w102 0 0;w103 0 0;w104 0 0;"), 3);
        Due.is(2, "full, though not later", Towns.read(x, "l1;w105 0 0;p9;"), -2003);
        Due.is(32, "the law came not", x.count(4), 0);
    }

    private static void theRowStays() {
        Due.says("The ROW that is read, and what is taken from a SHELF, stay there");
        LookAtClock x = Towns.of("w100 10 5;k29+0 0;k69+0 0;");
        String text = "l2;k00+0 0;";
        Towns.putText(x, 0, text);
        Due.is(2, "it is read", x.town(0), 2);
        for (int i = 0; i < text.length(); i++) Due.is(36, "element(0, " + i + ")", Towns.elementOf(x, 0, i), text.charAt(i));
        Due.is(2, "it is read again", x.town(0), 2);
        Towns.putRow(x, 1, 2, 0, 60, 61);
        Due.is(18, "learn(1, 0)", x.learn(1, 0), 1);
        Due.is(18, "learn(1, 1)", x.learn(1, 1), 21);
        Due.is(36, "its last", Towns.elementOf(x, 1, 2), 61);
        Towns.putRow(x, 2, 1, 45);
        Due.is(29, "judge(0, 2)", x.judge(0, 2), -4);
        Due.is(29, "judge(0, 2) again", x.judge(0, 2), -4);
        x.keep(3, 1, 0);
        for (int time = 0; time < 2; time++) {
            Due.is(38, "skill(3)", x.skill(3), 5);
            Due.is(39, "toss(3)", x.toss(3), 0);
        }
        Due.is(37, "copy(1, 0, 1, 1, 1)", x.copy(1, 0, 1, 1, 1), 1);
        Due.is(36, "what is copied stays", Towns.elementOf(x, 1, 0), 0);
    }
}

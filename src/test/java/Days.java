/** What is asked of one's day, told all at once. */
final class Days {
    private Days() {
    }

    /** COST, LOOKS, minutes LATE, IDLE, what was paid. */
    static void day(LookAtClock x, int looker, int... due) {
        for (int what = 0; what < due.length; what++) {
            Due.is(9, "day(" + looker + ", " + what + ")", x.day(looker, what), due[what]);
        }
    }

    /** All LOOKS, and none behind them. */
    static void looks(LookAtClock x, int looker, int... due) {
        Due.is(9, "day(" + looker + ", 1)", x.day(looker, 1), due.length);
        for (int i = 0; i <= due.length; i++) {
            Due.is(10, "look(" + looker + ", " + i + ")", x.look(looker, i), i < due.length ? due[i] : -4);
        }
    }

    /** When one comes to each WORK. */
    static void comes(LookAtClock x, int looker, int... due) {
        for (int work = 0; work < due.length; work++) {
            Due.is(11, "comes(" + looker + ", " + work + ")", x.comes(looker, work), due[work]);
        }
    }
}

import java.util.Arrays;

/** A town with one clock behind a shutter, looks at which are paid by the hour that they show. */
public final class LookAtClock {
    private static final int LAST_MINUTE = 719;
    private static final int NO_MINUTE = 720;
    private static final int MOST_WORKS = 5;
    private static final int MOST_LOOKERS = 6;
    private static final int MOST_PLANNED = 8;
    /** Beyond the plan's minutes a minute can be looked at again only where one work's wait ends and the next begins. */
    private static final int MOST_LOOKS = MOST_PLANNED + MOST_WORKS;
    private static final int MOST_WALK = 59;
    private static final int MOST_FIGURE = 9;
    private static final int MOST_DRIFT = 20;
    private static final int MOST_PRICE = 20;
    private static final int MOST_PAYERS = 9;
    private static final int MOST_WRONG = 60;
    private static final int MOST_SELLING = 12;
    private static final int MOST_DAYS = 20;
    private static final int KINDS = 8;
    private static final int LAWS = 3;
    private static final int SHELVES = 8;
    private static final int MOST_ELEMENTS = 100;
    private static final int MOST_TOLD = 5;

    private static final int ANY_SORT = -1;
    private static final int BYTES = 0;
    private static final int SHORTS = 1;
    private static final int INTS = 2;
    private static final int LEAST_BYTE = -128;
    private static final int LEAST_SHORT = -32768;
    private static final int LEAST_INT = -2147483648;
    private static final int ALL_BUT_SIGN = 2147483647;

    private static final int HOLDS_NOTHING = 0;
    private static final int HOLDS_LOOKER = 1;
    private static final int HOLDS_ROW = 2;

    private static final int NO_SUCH = -1;
    private static final int NOT_NOW = -3;
    private static final int NONE = -4;
    private static final int NOTHING_HELD = -11;
    private static final int OTHER_KIND = -12;
    private static final int NO_PLACE = -13;
    private static final int BELOW_SIZE = -14;
    private static final int NO_FAILURE = -15;
    private static final int NO_SUCH_BELOW_ZERO = -1000000001;

    /** What stands behind a statement's letter: 1 to 3 the most digits of a number, + a sign, all else itself. */
    private static final String WORK_FORM = "3 2 1;";
    private static final String LOOKER_FORM = "11+2 3;";
    private static final String LAW_FORM = "1;";
    private static final String PLAN_FORM = "3;";

    private final Town current = new Town();
    /** Statements are tried here, so that a fault leaves the town as it was. */
    private final Town draft = new Town();
    private final Town pictured = new Town();
    private boolean hasPicture = false;
    private final Day account = new Day();
    private final int[] told = new int[MOST_TOLD];
    private final int[] costs = new int[MOST_LOOKERS];
    private final int[] held = new int[SHELVES];
    private final Looker[] heldLookers = new Looker[SHELVES];
    private final Row[] heldRows = new Row[SHELVES];

    public LookAtClock() {
        for (int d = 0; d < SHELVES; d++) heldRows[d] = new Row();
    }

    // ---- towns

    public int town(int d) {
        int refusal = refusalOfRow(d, BYTES);
        if (refusal != 0) return refusal;
        Row text = heldRows[d];
        int wrong = firstWrongByte(text);
        if (wrong >= 0) return -1000 - wrong;
        draft.become(current);
        int place = 0;
        int statements = 0;
        while (statements < MOST_ELEMENTS && place < text.size) {
            int next = readStatement(text, place);
            if (next < 0 || !draft.takes(text.valueAt(place), told)) return -2000 - place;
            place = next;
            statements++;
        }
        current.become(draft);
        return statements;
    }

    public int price(int minute) {
        return isMinute(minute) ? priceAt(minute, current.law) : NO_SUCH;
    }

    public int law(int n) {
        int before = current.law;
        return current.takesLaw(n) ? before : NO_SUCH;
    }

    public int work(int work, int what) {
        if (!current.hasWork(work)) return NO_SUCH;
        switch (what) {
            case 0: return current.at[work];
            case 1: return current.walk[work];
            case 2: return current.late[work];
            default: return NO_SUCH;
        }
    }

    public int looker(int looker, int what) {
        Looker one = lookerNumbered(looker);
        if (one == null) return NO_SUCH;
        switch (what) {
            case 0: return one.kind();
            case 1: return one.figure;
            case 2: return one.wake;
            case 3: return one.early(one.figure);
            default: return NO_SUCH;
        }
    }

    public int drift(int looker) {
        Looker one = lookerNumbered(looker);
        return one == null ? NO_SUCH_BELOW_ZERO : one.drift;
    }

    public int thinks(int looker, int look, int minute) {
        Looker one = lookerNumbered(looker);
        if (one == null || !isMinute(look) || !isMinute(minute) || look > minute) return NO_SUCH_BELOW_ZERO;
        return reckoned(one.drift, look, minute);
    }

    // ---- days

    public int day(int looker, int what) {
        Looker one = lookerNumbered(looker);
        if (one == null) return NO_SUCH;
        account.live(current, one, one.drift, current.law);
        switch (what) {
            case 0: return account.cost;
            case 1: return account.lookCount;
            case 2: return account.late;
            case 3: return account.idle;
            case 4: return account.paid;
            default: return NO_SUCH;
        }
    }

    public int look(int looker, int i) {
        Looker one = lookerNumbered(looker);
        if (one == null || i < 0) return NO_SUCH;
        account.live(current, one, one.drift, current.law);
        return account.lookNumbered(i);
    }

    public int comes(int looker, int work) {
        Looker one = lookerNumbered(looker);
        if (one == null || !current.hasWork(work)) return NO_SUCH;
        account.live(current, one, one.drift, current.law);
        return account.comings[work];
    }

    public int bestFigure(int looker) {
        Looker one = lookerNumbered(looker);
        if (one == null) return NO_SUCH;
        account.live(current, new Best(one.number, one.figure, one.drift, one.wake), one.drift, current.law);
        return account.figure;
    }

    public int always(int looker) {
        Looker one = lookerNumbered(looker);
        if (one == null) return NO_SUCH;
        Looker never = new Never(one.number, one.figure, one.drift, one.wake);
        for (int figure = 0; figure <= MOST_FIGURE; figure++) {
            account.liveBy(current, never, figure, one.drift, current.law);
            if (account.late == 0) return figure;
        }
        return NONE;
    }

    public int pays(int looker) {
        Looker one = lookerNumbered(looker);
        if (one == null) return NO_SUCH_BELOW_ZERO;
        account.live(current, new Looker(one.number, one.figure, one.drift, one.wake), one.drift, current.law);
        int asLooker = account.cost;
        account.live(current, one, one.drift, current.law);
        return asLooker - account.cost;
    }

    public int bestKind(int looker) {
        Looker one = lookerNumbered(looker);
        if (one == null) return NO_SUCH;
        int best = 0;
        int least = 0;
        for (int kind = 0; kind < KINDS; kind++) {
            account.live(current, newLooker(kind, one.number, one.figure, one.drift, one.wake), one.drift, current.law);
            if (kind == 0 || account.cost < least) {
                best = kind;
                least = account.cost;
            }
        }
        return best;
    }

    public int edge(int looker, int work) {
        Looker one = lookerNumbered(looker);
        if (one == null || !current.hasWork(work)) return NO_SUCH;
        Looker clock = new Clock(one.number, one.figure, one.drift, one.wake);
        for (int figure = 0; figure <= MOST_FIGURE; figure++) {
            account.liveBy(current, clock, figure, one.drift, current.law);
            if (account.comings[work] == NONE || account.comings[work] <= current.at[work]) return figure;
        }
        return NONE;
    }

    public int waits(int minute, int price) {
        if (!isMinute(minute) || price < 0 || price > MOST_PRICE) return NO_SUCH;
        int cheap = cheapMinute(minute, price, current.law);
        return cheap == NO_MINUTE ? NONE : cheap - minute;
    }

    // ---- learning, sharing, sellers

    public int learn(int d, int what) {
        if (what < 0 || what > 2) return NO_SUCH;
        int refusal = refusalOfRow(d, INTS);
        if (refusal != 0) return refusal;
        Row thoughts = heldRows[d];
        if (!areThoughts(thoughts)) return NO_PLACE;
        int many = 0;
        int least = NONE;
        int greatest = NONE;
        for (int drift = -MOST_DRIFT; drift <= MOST_DRIFT; drift++) {
            if (!couldBe(thoughts, drift)) continue;
            if (many == 0) least = drift + MOST_DRIFT;
            greatest = drift + MOST_DRIFT;
            many++;
        }
        return what == 0 ? many : what == 1 ? least : greatest;
    }

    public int shared(int minute, int n) {
        if (!isMinute(minute) || n < 1 || n > MOST_PAYERS) return NO_SUCH;
        return part(priceAt(minute, current.law), n);
    }

    public int nine(int minute, int m) {
        if (!isMinute(minute) || m < 1 || m > MOST_PRICE) return NO_SUCH;
        int whole = priceAt(minute, current.law);
        for (int n = 1; n <= MOST_PAYERS; n++) {
            if (part(whole, n) <= m) return n;
        }
        return NONE;
    }

    public int buys(int minute, int w, int a, int c) {
        if (!isOffer(minute, w, c) || a < 0 || a > MOST_SELLING) return NO_SUCH;
        return a + w * c < priceAt(minute, current.law) ? 1 : 0;
    }

    public int rest(int minute, int w, int c) {
        if (!isOffer(minute, w, c)) return NO_SUCH;
        int most = priceAt(minute, current.law) - w * c - 1;
        return most < 0 ? NONE : Math.min(most, MOST_SELLING);
    }

    // ---- two clocks, laws, all

    public int cheaper(int minute) {
        if (!isMinute(minute)) return NO_SUCH;
        return Math.min(priceAt(minute, current.law), otherPriceAt(minute, current.law));
    }

    public int otherCheaper() {
        int many = 0;
        for (int minute = 0; minute <= LAST_MINUTE; minute++) {
            if (otherPriceAt(minute, current.law) < priceAt(minute, current.law)) many++;
        }
        return many;
    }

    public int byLaw(int looker, int law) {
        Looker one = lookerNumbered(looker);
        if (one == null || law < 0 || law >= LAWS) return NO_SUCH;
        account.live(current, one, one.drift, law);
        return account.cost;
    }

    public int sum() {
        countCosts();
        int all = 0;
        for (int i = 0; i < MOST_LOOKERS && i < current.lookerCount; i++) all += costs[i];
        return all;
    }

    public int order() {
        countCosts();
        int digits = 0;
        for (int i = 0; i < MOST_LOOKERS && i < current.lookerCount; i++) digits += i * weightOf(i);
        return digits;
    }

    public int seeded(int looker, int n, int z, int what) {
        Looker one = lookerNumbered(looker);
        if (one == null || n < 1 || n > MOST_DAYS || what < 0 || what > 2) return NO_SUCH;
        int seed = z;
        int all = 0;
        int greatest = 0;
        int late = 0;
        for (int i = 0; i < n; i++) {
            seed = seed * 1103515245 + 12345;
            int draw = ((seed & ALL_BUT_SIGN) / 65536) % 11;
            int drift = Math.max(-MOST_DRIFT, Math.min(MOST_DRIFT, one.drift + draw - 5));
            account.live(current, one, drift, current.law);
            all += account.cost;
            greatest = Math.max(greatest, account.cost);
            if (account.late > 0) late++;
        }
        return what == 0 ? all : what == 1 ? greatest : late;
    }

    public int judge(int looker, int d) {
        Looker one = lookerNumbered(looker);
        if (one == null) return NO_SUCH;
        int refusal = refusalOfRow(d, ANY_SORT);
        if (refusal != 0) return refusal;
        account.live(current, one, one.drift, current.law);
        Row row = heldRows[d];
        int both = Math.min(row.size, account.lookCount);
        for (int i = 0; i < both; i++) {
            int value = row.valueAt(i);
            if (value != row.leastOfSort() && value != account.lookNumbered(i)) return i;
        }
        return row.size == account.lookCount ? NONE : both;
    }

    // ---- the image, what is told

    public int image() {
        pictured.become(current);
        hasPicture = true;
        return current.lookerCount;
    }

    public int restore() {
        if (!hasPicture) return NOT_NOW;
        current.become(pictured);
        return current.lookerCount;
    }

    public int count(int what) {
        switch (what) {
            case 0: return current.workCount;
            case 1: return current.lookerCount;
            case 2: return current.planCount;
            case 3: return current.allWalks();
            case 4: return current.law;
            default: return NO_SUCH;
        }
    }

    // ---- shelves

    public int keep(int d, int what, int k) {
        if (!isShelf(d)) return NO_SUCH;
        if (what == HOLDS_NOTHING) {
            held[d] = HOLDS_NOTHING;
            return 0;
        }
        Looker one = lookerNumbered(k);
        if (what != HOLDS_LOOKER || one == null) return NO_SUCH;
        held[d] = HOLDS_LOOKER;
        heldLookers[d] = one;
        return 0;
    }

    public int row(int d, int sort, int n) {
        if (!isShelf(d) || sort < BYTES || sort > INTS || n > MOST_ELEMENTS) return NO_SUCH;
        if (n < 0) return BELOW_SIZE;
        Row row = heldRows[d];
        if (row == null) return NO_SUCH;
        row.begin(sort, n);
        held[d] = HOLDS_ROW;
        return 0;
    }

    public int put(int d, int i, int v) {
        int refusal = refusalOfRow(d, ANY_SORT);
        if (refusal != 0) return refusal;
        Row row = heldRows[d];
        if (!row.hasPlace(i)) return NO_PLACE;
        row.putIn(i, v);
        return 0;
    }

    public long element(int d, int i) throws IllegalArgumentException, IllegalStateException {
        if (!isShelf(d)) throw new IllegalArgumentException("no such shelf");
        if (!holdsRow(d)) throw new IllegalStateException("no row");
        Row row = heldRows[d];
        if (!row.hasPlace(i)) throw new IllegalStateException("no such place");
        return row.valueAt(i);
    }

    public int copy(int d, int i, int e, int j, int n) {
        if (!isShelf(d) || !isShelf(e)) return NO_SUCH;
        if (held[d] == HOLDS_NOTHING || held[e] == HOLDS_NOTHING) return NOTHING_HELD;
        if (!holdsRow(d) || !holdsRow(e)) return OTHER_KIND;
        Row from = heldRows[d];
        Row to = heldRows[e];
        if (from.sort != to.sort) return OTHER_KIND;
        if (!from.hasPlaces(i, n) || !to.hasPlaces(j, n)) return NO_PLACE;
        System.arraycopy(from.values, i, to.values, j, n);
        return n;
    }

    public int skill(int d) {
        int refusal = refusalOfLooker(d);
        return refusal != 0 ? refusal : heldLookers[d].ownSkill();
    }

    public int toss(int d) {
        int refusal = refusalOfLooker(d);
        if (refusal != 0) return refusal;
        Looker one = heldLookers[d];
        try {
            one.fail();
        } catch (UnsupportedOperationException failure) {
            return one.number + 100;
        } catch (IllegalArgumentException failure) {
            return one.ownSkill() + 200;
        } catch (IllegalStateException failure) {
            return one.number;
        }
        return NO_FAILURE;
    }

    // ---- what several calls ask

    private Looker lookerNumbered(int looker) {
        if (looker < 0 || looker >= MOST_LOOKERS || looker >= current.lookerCount) return null;
        return current.lookers[looker];
    }

    private static boolean isMinute(int minute) {
        return minute >= 0 && minute <= LAST_MINUTE;
    }

    private static boolean isShelf(int d) {
        return d >= 0 && d < SHELVES;
    }

    private static boolean isOffer(int minute, int w, int c) {
        return isMinute(minute) && w >= 0 && w <= MOST_WRONG && c >= 0 && c <= 9;
    }

    /** 0 if a shelf holds a row of a sort, or of any sort. */
    private int refusalOfRow(int d, int sort) {
        if (!isShelf(d)) return NO_SUCH;
        if (held[d] == HOLDS_NOTHING) return NOTHING_HELD;
        if (!holdsRow(d)) return OTHER_KIND;
        return sort == ANY_SORT || heldRows[d].sort == sort ? 0 : OTHER_KIND;
    }

    private boolean holdsRow(int d) {
        return isShelf(d) && held[d] == HOLDS_ROW && heldRows[d] != null;
    }

    /** 0 if a shelf holds a looker. */
    private int refusalOfLooker(int d) {
        if (!isShelf(d)) return NO_SUCH;
        if (held[d] == HOLDS_NOTHING) return NOTHING_HELD;
        return held[d] == HOLDS_LOOKER && heldLookers[d] != null ? 0 : OTHER_KIND;
    }

    private static int priceAt(int minute, int law) {
        if (law == 2) return 6;
        int hour = minute < 60 ? 12 : minute / 60;
        return law == 1 ? hour + minute % 60 / 10 : hour;
    }

    private static int otherPriceAt(int minute, int law) {
        return priceAt((minute + 60) % NO_MINUTE, law);
    }

    /** The first minute from one on whose price is no more than told. */
    private static int cheapMinute(int from, int price, int law) {
        for (int minute = from; minute <= LAST_MINUTE; minute++) {
            if (priceAt(minute, law) <= price) return minute;
        }
        return NO_MINUTE;
    }

    private static int reckoned(int drift, int look, int minute) {
        return minute + (minute - look) * drift / 60;
    }

    private static int part(int whole, int n) {
        return n < 1 ? whole : (whole + n - 1) / n;
    }

    private void countCosts() {
        for (int i = 0; i < MOST_LOOKERS; i++) {
            Looker one = lookerNumbered(i);
            if (one == null) return;
            account.live(current, one, one.drift, current.law);
            costs[i] = account.cost;
        }
    }

    /** Ten to as many as go ahead of one in the order by cost. */
    private int weightOf(int looker) {
        int weight = 1;
        for (int i = 0; i < MOST_LOOKERS && i < current.lookerCount; i++) {
            if (costs[i] < costs[looker] || costs[i] == costs[looker] && i < looker) weight *= 10;
        }
        return weight;
    }

    private static boolean areThoughts(Row row) {
        if (row.size % 3 != 0) return false;
        for (int i = 0; i + 2 < row.size; i += 3) {
            int look = row.valueAt(i);
            int minute = row.valueAt(i + 1);
            if (!isMinute(look) || !isMinute(minute) || minute <= look) return false;
        }
        return true;
    }

    private static boolean couldBe(Row thoughts, int drift) {
        for (int i = 0; i + 2 < thoughts.size; i += 3) {
            int thought = reckoned(drift, thoughts.valueAt(i), thoughts.valueAt(i + 1));
            if (thought != thoughts.valueAt(i + 2)) return false;
        }
        return true;
    }

    private static Looker newLooker(int kind, int number, int figure, int drift, int wake) {
        switch (kind) {
            case 1: return new Never(number, figure, drift, wake);
            case 2: return new Clock(number, figure, drift, wake);
            case 3: return new Cheap(number, figure, drift, wake);
            case 4: return new Best(number, figure, drift, wake);
            case 5: return new Share(number, figure, drift, wake);
            case 6: return new Told(number, figure, drift, wake);
            case 7: return new Seller(number, figure, drift, wake);
            default: return new Looker(number, figure, drift, wake);
        }
    }

    // ---- reading

    /** The place of the first byte with which no town can go on; -1 if there is none. */
    private int firstWrongByte(Row text) {
        int place = 0;
        for (int n = 0; n < MOST_ELEMENTS && (n == 0 || place < text.size); n++) {
            int next = readStatement(text, place);
            if (next < 0) return -1 - next;
            place = next;
        }
        return -1;
    }

    /** Puts a statement's numbers into told; answers the place behind it, or -1 less that of the first wrong byte. */
    private int readStatement(Row text, int from) {
        String form = formOf(text.valueAt(from));
        if (form.isEmpty()) return -1 - from;
        int place = from + 1;
        int numbers = 0;
        for (int i = 0; i < form.length(); i++) {
            char sign = form.charAt(i);
            int size = sizeOfPart(text, place, sign);
            if (size == 0) return -1 - place;
            if (sign != ' ' && sign != ';' && numbers < MOST_TOLD) {
                told[numbers] = sign == '+' ? signAt(text, place) : numberAt(text, place, size);
                numbers++;
            }
            place += size;
        }
        return place;
    }

    private static String formOf(int letter) {
        switch (letter) {
            case 'w': return WORK_FORM;
            case 'k': return LOOKER_FORM;
            case 'l': return LAW_FORM;
            case 'p': return PLAN_FORM;
            default: return "";
        }
    }

    /** How many bytes of a text are a part of a form; 0 if the byte at the place can't be. */
    private static int sizeOfPart(Row text, int place, char part) {
        if (part >= '1' && part <= '3') return digitsAt(text, place, part - '0');
        if (part == '+') return signAt(text, place) == 0 ? 0 : 1;
        return text.valueAt(place) == part ? 1 : 0;
    }

    private static int signAt(Row text, int place) {
        int letter = text.valueAt(place);
        return letter == '+' ? 1 : letter == '-' ? -1 : 0;
    }

    private static int digitsAt(Row text, int place, int most) {
        // A 0 stands alone, so whatever follows it is no digit of this number.
        if (text.valueAt(place) == '0') return 1;
        int digits = 0;
        while (digits < most && isDigit(text.valueAt(place + digits))) digits++;
        return digits;
    }

    private static boolean isDigit(int letter) {
        return letter >= '0' && letter <= '9';
    }

    private static int numberAt(Row text, int place, int size) {
        int number = 0;
        for (int i = 0; i < size; i++) number = number * 10 + text.valueAt(place + i) - '0';
        return number;
    }

    /** Works, lookers, the plan and the law: all that an image holds. */
    private static final class Town {
        final int[] at = new int[MOST_WORKS];
        final int[] walk = new int[MOST_WORKS];
        final int[] late = new int[MOST_WORKS];
        final Looker[] lookers = new Looker[MOST_LOOKERS];
        final int[] plan = new int[MOST_PLANNED];
        int workCount;
        int lookerCount;
        int planCount;
        int law;

        void become(Town other) {
            System.arraycopy(other.at, 0, at, 0, MOST_WORKS);
            System.arraycopy(other.walk, 0, walk, 0, MOST_WORKS);
            System.arraycopy(other.late, 0, late, 0, MOST_WORKS);
            System.arraycopy(other.plan, 0, plan, 0, MOST_PLANNED);
            for (int i = 0; i < MOST_LOOKERS; i++) lookers[i] = other.lookers[i];
            workCount = other.workCount;
            lookerCount = other.lookerCount;
            planCount = other.planCount;
            law = other.law;
        }

        boolean hasWork(int work) {
            return work >= 0 && work < MOST_WORKS && work < workCount;
        }

        int allWalks() {
            int all = 0;
            for (int i = 0; i < MOST_WORKS && i < workCount; i++) all += walk[i];
            return all;
        }

        /** The plan's first minute from one on. */
        int nextPlanned(int from) {
            for (int i = 0; i < MOST_PLANNED && i < planCount; i++) {
                if (plan[i] >= from) return plan[i];
            }
            return NO_MINUTE;
        }

        /** Does one statement; false, and nothing is done, if it isn't as told. */
        boolean takes(int letter, int[] numbers) {
            if (numbers.length < MOST_TOLD) return false;
            switch (letter) {
                case 'w': return takesWork(numbers[0], numbers[1], numbers[2]);
                case 'k': return takesLooker(numbers[0], numbers[1], numbers[2] * numbers[3], numbers[4]);
                case 'l': return takesLaw(numbers[0]);
                case 'p': return takesPlanned(numbers[0]);
                default: return false;
            }
        }

        boolean takesWork(int newAt, int newWalk, int newLate) {
            if (workCount < 0 || workCount >= MOST_WORKS || !isMinute(newAt) || newWalk > MOST_WALK) return false;
            if (workCount > 0 && newAt <= at[workCount - 1]) return false;
            at[workCount] = newAt;
            walk[workCount] = newWalk;
            late[workCount] = newLate;
            workCount++;
            return true;
        }

        boolean takesLooker(int kind, int figure, int drift, int wake) {
            if (lookerCount < 0 || lookerCount >= MOST_LOOKERS || kind >= KINDS || !isMinute(wake)) return false;
            if (drift < -MOST_DRIFT || drift > MOST_DRIFT) return false;
            lookers[lookerCount] = newLooker(kind, lookerCount, figure, drift, wake);
            lookerCount++;
            return true;
        }

        boolean takesLaw(int n) {
            if (n < 0 || n >= LAWS) return false;
            law = n;
            return true;
        }

        boolean takesPlanned(int minute) {
            if (planCount < 0 || planCount >= MOST_PLANNED || !isMinute(minute)) return false;
            if (planCount > 0 && minute <= plan[planCount - 1]) return false;
            plan[planCount] = minute;
            planCount++;
            return true;
        }
    }

    /** The account of the day lived last; a new one is lived over it, so that days in mind cost no room. */
    private static final class Day {
        final int[] looks = new int[MOST_LOOKS];
        final int[] comings = new int[MOST_WORKS];
        Town town;
        int figure;
        int drift;
        int law;
        int latest;
        int free;
        int lookCount;
        int cost;
        int late;
        int idle;
        int paid;

        /** A day of one, by a drift and a law that may be only in mind. */
        void live(Town in, Looker one, int byDrift, int byLaw) {
            int byFigure = one.figure;
            int least = 0;
            for (int tried = 0; tried <= MOST_FIGURE && one.choosesFigure(); tried++) {
                liveBy(in, one, tried, byDrift, byLaw);
                if (tried == 0 || cost < least) {
                    byFigure = tried;
                    least = cost;
                }
            }
            liveBy(in, one, byFigure, byDrift, byLaw);
        }

        void liveBy(Town in, Looker one, int byFigure, int byDrift, int byLaw) {
            town = in;
            figure = byFigure;
            drift = byDrift;
            law = byLaw;
            latest = one.wake;
            free = one.wake;
            lookCount = 0;
            cost = 0;
            late = 0;
            idle = 0;
            paid = 0;
            for (int work = 0; work < MOST_WORKS && work < in.workCount; work++) {
                if (in.at[work] < one.wake) comings[work] = NONE;
                else comeTo(work, goingMinute(one, in.at[work] - in.walk[work]) + in.walk[work]);
            }
        }

        void comeTo(int work, int minute) {
            if (town == null || !town.hasWork(work)) return;
            int at = town.at[work];
            int behind = Math.max(0, minute - at);
            comings[work] = minute;
            late += behind;
            idle += Math.max(0, at - minute);
            cost += behind * town.late[work];
            free = Math.min(LAST_MINUTE, Math.max(minute, at));
        }

        /** When one goes who has to leave at a minute: from the latest look on, each look may change that. */
        int goingMinute(Looker one, int leaving) {
            int from = free;
            int nextFrom = free;
            for (int done = 0; done <= MOST_PLANNED; done++) {
                int going = Math.min(LAST_MINUTE, firstThinking(from, leaving - one.early(figure)));
                int ready = firstThinking(from, leaving - 5 * figure);
                int looking = one.nextLook(this, ready, nextFrom, done);
                if (looking > going) return going;
                lookAt(one, looking);
                from = looking;
                nextFrom = looking + 1;
            }
            return LAST_MINUTE;
        }

        void lookAt(Looker one, int minute) {
            int fee = one.fee(priceAt(minute, law));
            paid += fee;
            cost += fee;
            latest = minute;
            if (lookCount >= 0 && lookCount < MOST_LOOKS) {
                looks[lookCount] = minute;
                lookCount++;
            }
        }

        int lookNumbered(int i) {
            return i >= 0 && i < MOST_LOOKS && i < lookCount ? looks[i] : NONE;
        }

        /** The first minute from one on at which it is thought to be a minute, or later. */
        int firstThinking(int from, int thought) {
            // As a drift is below 60, what one thinks never goes back: the minutes can be halved.
            int low = from;
            int high = NO_MINUTE;
            for (int n = 0; n < 10 && low < high; n++) {
                int middle = (low + high) / 2;
                if (reckoned(drift, latest, middle) >= thought) high = middle;
                else low = middle + 1;
            }
            return low;
        }
    }

    /** One that goes when it thinks that it must, and never looks. The other kinds stand under it. */
    private static class Looker {
        final int number;
        final int figure;
        final int drift;
        final int wake;

        Looker(int number, int figure, int drift, int wake) {
            this.number = number;
            this.figure = figure;
            this.drift = drift;
            this.wake = wake;
        }

        int kind() {
            return 0;
        }

        int early(int byFigure) {
            return 0;
        }

        /** When it looks next for a work, for which it has looked so many times: ready is when a clock would. */
        int nextLook(Day day, int ready, int from, int done) {
            return NO_MINUTE;
        }

        int fee(int price) {
            return price;
        }

        boolean choosesFigure() {
            return false;
        }

        int ownSkill() {
            return 1;
        }

        /** Throws its failure; comes back only if it has none. */
        void fail() {
            if (figure != 0) throw new IllegalStateException("a looker fails");
        }
    }

    private static final class Never extends Looker {
        Never(int number, int figure, int drift, int wake) {
            super(number, figure, drift, wake);
        }

        int kind() {
            return 1;
        }

        int early(int byFigure) {
            return 2 * byFigure;
        }

        int ownSkill() {
            return super.ownSkill() + figure;
        }
    }

    private static class Clock extends Looker {
        Clock(int number, int figure, int drift, int wake) {
            super(number, figure, drift, wake);
        }

        int kind() {
            return 2;
        }

        int nextLook(Day day, int ready, int from, int done) {
            return done > 0 ? NO_MINUTE : ready;
        }

        int ownSkill() {
            return super.ownSkill() + 4;
        }
    }

    private static class Cheap extends Clock {
        Cheap(int number, int figure, int drift, int wake) {
            super(number, figure, drift, wake);
        }

        int kind() {
            return 3;
        }

        int nextLook(Day day, int ready, int from, int done) {
            return done > 0 ? NO_MINUTE : cheapMinute(ready, day.figure, day.law);
        }

        int ownSkill() {
            return super.ownSkill() * figure;
        }
    }

    /** A clock but for its figure, which the day chooses. */
    private static final class Best extends Clock {
        Best(int number, int figure, int drift, int wake) {
            super(number, figure, drift, wake);
        }

        int kind() {
            return 4;
        }

        boolean choosesFigure() {
            return true;
        }

        int ownSkill() {
            return super.ownSkill() * 3;
        }

        void fail() {
            if (figure != 0) throw new UnsupportedOperationException("a best one fails");
        }
    }

    private static final class Share extends Clock {
        Share(int number, int figure, int drift, int wake) {
            super(number, figure, drift, wake);
        }

        int kind() {
            return 5;
        }

        int fee(int price) {
            return part(price, 2);
        }

        int ownSkill() {
            return super.ownSkill() - 2;
        }
    }

    private static final class Told extends Looker {
        Told(int number, int figure, int drift, int wake) {
            super(number, figure, drift, wake);
        }

        int kind() {
            return 6;
        }

        int early(int byFigure) {
            return byFigure;
        }

        int nextLook(Day day, int ready, int from, int done) {
            return day.town == null ? NO_MINUTE : day.town.nextPlanned(from);
        }

        int ownSkill() {
            return super.ownSkill() - 1;
        }

        void fail() {
            // Whoever looks only as told has nothing of its own to fail by.
        }
    }

    private static final class Seller extends Cheap {
        Seller(int number, int figure, int drift, int wake) {
            super(number, figure, drift, wake);
        }

        int kind() {
            return 7;
        }

        int fee(int price) {
            return Math.max(0, price - 2);
        }

        int ownSkill() {
            return super.ownSkill() + 9;
        }

        void fail() {
            if (figure != 0) throw new IllegalArgumentException("a seller fails");
        }
    }

    /** Numbers of one sort on a shelf. */
    private static final class Row {
        final int[] values = new int[MOST_ELEMENTS];
        int sort;
        int size;

        void begin(int ofSort, int ofSize) {
            sort = ofSort;
            size = ofSize;
            Arrays.fill(values, 0);
        }

        boolean hasPlace(int i) {
            return i >= 0 && i < MOST_ELEMENTS && i < size;
        }

        boolean hasPlaces(int i, int n) {
            return i >= 0 && n >= 0 && n <= size && i <= size - n;
        }

        /** 0 behind the end: no text can go on with it. */
        int valueAt(int i) {
            return hasPlace(i) ? values[i] : 0;
        }

        void putIn(int i, int value) {
            if (!hasPlace(i)) return;
            values[i] = sort == BYTES ? (byte) value : sort == SHORTS ? (short) value : value;
        }

        int leastOfSort() {
            return sort == BYTES ? LEAST_BYTE : sort == SHORTS ? LEAST_SHORT : LEAST_INT;
        }
    }
}

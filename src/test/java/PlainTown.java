import java.util.ArrayList;
import java.util.List;

/** All calls once more, in the document's words and without any thrift; its days are those of DayModel. */
final class PlainTown {
    private static final int BELOW = -1000000001;
    private static final int[] LEAST = {-128, -32768, Integer.MIN_VALUE};

    /** A LOOKER as a SHELF holds it. */
    private record Kept(int number, int kind, int figure) {
    }

    /** A ROW as a SHELF holds it. */
    private record Line(int sort, int[] values) {
    }

    private DayModel now = new DayModel();
    private DayModel image = null;
    private final Object[] shelves = new Object[8];

    /** What a call has to answer; for exceptions the numbers of Calls. */
    long answer(String name, int... n) {
        switch (name) {
            case "town": return town(n[0]);
            case "price": return minute(n[0]) ? price(n[0]) : -1;
            case "law": return law(n[0]);
            case "work": return n[0] >= 0 && n[0] < now.works.size() && in(n[1], 0, 2) ? now.works.get(n[0])[n[1]] : -1;
            case "looker": return looker(n[0], n[1]);
            case "drift": return there(n[0]) ? now.lookers.get(n[0])[2] : BELOW;
            case "thinks": return thinks(n[0], n[1], n[2]);
            case "learn": return learn(n[0], n[1]);
            case "shared": return minute(n[0]) && in(n[1], 1, 9) ? shared(n[0], n[1]) : -1;
            case "nine": return nine(n[0], n[1]);
            case "buys": return in(n[2], 0, 12) && offer(n[0], n[1], n[3]) ? buys(n[0], n[1], n[2], n[3]) : -1;
            case "rest": return rest(n[0], n[1], n[2]);
            case "waits": return waits(n[0], n[1]);
            case "cheaper": return minute(n[0]) ? Math.min(price(n[0]), price((n[0] + 60) % 720)) : -1;
            case "otherCheaper": return otherCheaper();
            case "image": image = copyOf(now); return now.lookers.size();
            case "restore": return restore();
            case "count": return count(n[0]);
            default: return name.matches("keep|row|put|element|copy|skill|toss") ? shelfAnswer(name, n) : dayAnswer(name, n);
        }
    }

    private long dayAnswer(String name, int[] n) {
        switch (name) {
            case "day": return there(n[0]) && in(n[1], 0, 4) ? day(n[0], n[1]) : -1;
            case "look": return look(n[0], n[1]);
            case "comes": return there(n[0]) && n[1] >= 0 && n[1] < now.works.size() ? comes(n[0], n[1]) : -1;
            case "bestFigure": return bestFigure(n[0]);
            case "always": return always(n[0]);
            case "pays": return there(n[0]) ? costAs(0, n[0]) - cost(n[0]) : BELOW;
            case "bestKind": return bestKind(n[0]);
            case "edge": return edge(n[0], n[1]);
            case "byLaw": return byLaw(n[0], n[1]);
            case "sum": return sum();
            case "order": return order();
            case "seeded": return seeded(n[0], n[1], n[2], n[3]);
            case "judge": return judge(n[0], n[1]);
            default: throw new IllegalStateException(name);
        }
    }

    private long shelfAnswer(String name, int[] n) {
        switch (name) {
            case "keep": return keep(n[0], n[1], n[2]);
            case "row": return row(n[0], n[1], n[2]);
            case "put": return put(n[0], n[1], n[2]);
            case "element": return element(n[0], n[1]);
            case "copy": return copy(n[0], n[1], n[2], n[3], n[4]);
            case "skill": return shelf(n[0]) && shelves[n[0]] instanceof Kept one ? skill(one) : refusal(n[0]);
            case "toss": return shelf(n[0]) && shelves[n[0]] instanceof Kept one ? toss(one) : refusal(n[0]);
            default: throw new IllegalStateException(name);
        }
    }

    // ---- towns

    private static boolean in(int n, int least, int greatest) {
        return n >= least && n <= greatest;
    }

    private static boolean minute(int n) {
        return in(n, 0, 719);
    }

    private boolean there(int looker) {
        return looker >= 0 && looker < now.lookers.size();
    }

    private int price(int minute) {
        return DayModel.price(minute, now.law);
    }

    private static DayModel copyOf(DayModel town) {
        DayModel copy = new DayModel();
        copy.works.addAll(town.works);
        copy.lookers.addAll(town.lookers);
        copy.plan.addAll(town.plan);
        copy.law = town.law;
        return copy;
    }

    private int town(int d) {
        if (!shelf(d)) return -1;
        if (!(shelves[d] instanceof Line line) || line.sort != 0) return refusal(d);
        StringBuilder text = new StringBuilder();
        for (int value : line.values) text.append((char) (value & 255));
        int wrong = TextFuzz.firstWrong(text.toString());
        if (wrong >= 0) return -1000 - wrong;
        DayModel then = copyOf(now);
        int place = 0;
        String[] statements = text.toString().split(";");
        for (String statement : statements) {
            if (!takes(then, statement.charAt(0), statement.substring(1))) return -2000 - place;
            place += statement.length() + 1;
        }
        now = then;
        return statements.length;
    }

    private static boolean takes(DayModel town, char letter, String rest) {
        if (letter == 'w') {
            String[] words = rest.split(" ");
            int[] work = {Integer.parseInt(words[0]), Integer.parseInt(words[1]), Integer.parseInt(words[2])};
            int before = town.works.isEmpty() ? -1 : town.works.get(town.works.size() - 1)[0];
            if (town.works.size() == 5 || !minute(work[0]) || work[0] <= before || work[1] > 59) return false;
            town.works.add(work);
        } else if (letter == 'k') {
            String[] words = rest.substring(2).split(" ");
            int[] one = {rest.charAt(0) - '0', rest.charAt(1) - '0', Integer.parseInt(words[0]), Integer.parseInt(words[1])};
            if (town.lookers.size() == 6 || one[0] > 7 || !in(one[2], -20, 20) || !minute(one[3])) return false;
            town.lookers.add(one);
        } else if (letter == 'l') {
            int law = Integer.parseInt(rest);
            if (law > 2) return false;
            town.law = law;
        } else {
            int planned = Integer.parseInt(rest);
            int before = town.plan.isEmpty() ? -1 : town.plan.get(town.plan.size() - 1);
            if (town.plan.size() == 8 || !minute(planned) || planned <= before) return false;
            town.plan.add(planned);
        }
        return true;
    }

    private int law(int n) {
        if (!in(n, 0, 2)) return -1;
        int before = now.law;
        now.law = n;
        return before;
    }

    private int looker(int k, int what) {
        if (!there(k) || !in(what, 0, 3)) return -1;
        int[] one = now.lookers.get(k);
        int early = one[0] == 1 ? 2 * one[1] : one[0] == 6 ? one[1] : 0;
        return new int[] {one[0], one[1], one[3], early}[what];
    }

    private int thinks(int k, int look, int t) {
        if (!there(k) || !minute(look) || !minute(t) || look > t) return BELOW;
        return t + (t - look) * now.lookers.get(k)[2] / 60;
    }

    private int restore() {
        if (image == null) return -3;
        now = copyOf(image);
        return now.lookers.size();
    }

    private int count(int what) {
        int walks = 0;
        for (int[] work : now.works) walks += work[1];
        int[] counts = {now.works.size(), now.lookers.size(), now.plan.size(), walks, now.law};
        return in(what, 0, 4) ? counts[what] : -1;
    }

    // ---- days

    private void live(int kind, int figure, int k) {
        int[] one = now.lookers.get(k);
        now.live(kind, figure, one[2], one[3], now.law);
    }

    private int costAs(int kind, int k) {
        live(kind, now.lookers.get(k)[1], k);
        return now.cost;
    }

    private int cost(int k) {
        return costAs(now.lookers.get(k)[0], k);
    }

    private int day(int k, int what) {
        cost(k);
        return new int[] {now.cost, now.looks.size(), now.late, now.idle, now.paid}[what];
    }

    private int look(int k, int i) {
        if (!there(k) || i < 0) return -1;
        cost(k);
        return i < now.looks.size() ? now.looks.get(i) : -4;
    }

    private int comes(int k, int work) {
        cost(k);
        return now.comings.get(work);
    }

    private int bestFigure(int k) {
        if (!there(k)) return -1;
        live(4, 0, k);
        return now.bestFigure;
    }

    private int always(int k) {
        if (!there(k)) return -1;
        for (int figure = 0; figure < 10; figure++) {
            live(1, figure, k);
            if (now.late == 0) return figure;
        }
        return -4;
    }

    private int bestKind(int k) {
        if (!there(k)) return -1;
        int best = 0;
        for (int kind = 1; kind < 8; kind++) {
            if (costAs(kind, k) < costAs(best, k)) best = kind;
        }
        return best;
    }

    private int edge(int k, int work) {
        if (!there(k) || work < 0 || work >= now.works.size()) return -1;
        for (int figure = 0; figure < 10; figure++) {
            live(2, figure, k);
            if (now.comings.get(work) <= now.works.get(work)[0]) return figure;
        }
        return -4;
    }

    private int byLaw(int k, int law) {
        if (!there(k) || !in(law, 0, 2)) return -1;
        int[] one = now.lookers.get(k);
        now.live(one[0], one[1], one[2], one[3], law);
        return now.cost;
    }

    private int sum() {
        int sum = 0;
        for (int k = 0; k < now.lookers.size(); k++) sum += cost(k);
        return sum;
    }

    private int order() {
        List<Integer> order = new ArrayList<>();
        for (int k = 0; k < now.lookers.size(); k++) order.add(k);
        order.sort((a, b) -> cost(a) != cost(b) ? cost(a) - cost(b) : a - b);
        int digits = 0;
        for (int i = order.size() - 1; i >= 0; i--) digits = digits * 10 + order.get(i);
        return digits;
    }

    private int seeded(int k, int n, int z, int what) {
        if (!there(k) || !in(n, 1, 20) || !in(what, 0, 2)) return -1;
        int[] one = now.lookers.get(k);
        int all = 0;
        int greatest = 0;
        int late = 0;
        int seed = z;
        for (int i = 0; i < n; i++) {
            seed = (int) (seed * 1103515245L + 12345L);
            int draw = (seed & Integer.MAX_VALUE) / 65536 % 11;
            now.live(one[0], one[1], Math.min(20, Math.max(-20, one[2] + draw - 5)), one[3], now.law);
            all += now.cost;
            greatest = Math.max(greatest, now.cost);
            late += now.late > 0 ? 1 : 0;
        }
        return new int[] {all, greatest, late}[what];
    }

    private int judge(int k, int d) {
        if (!there(k) || !shelf(d)) return -1;
        if (!(shelves[d] instanceof Line line)) return refusal(d);
        cost(k);
        for (int i = 0; ; i++) {
            boolean told = i < line.values.length;
            if (i == now.looks.size()) return told ? i : -4;
            if (!told) return i;
            if (line.values[i] != now.looks.get(i) && line.values[i] != LEAST[line.sort]) return i;
        }
    }

    // ---- prices

    private int shared(int minute, int n) {
        int each = 0;
        while (each * n < price(minute)) each++;
        return each;
    }

    private int nine(int minute, int m) {
        if (!minute(minute) || !in(m, 1, 20)) return -1;
        for (int n = 1; n < 10; n++) {
            if (shared(minute, n) <= m) return n;
        }
        return -4;
    }

    private static boolean offer(int minute, int w, int c) {
        return minute(minute) && in(w, 0, 60) && in(c, 0, 9);
    }

    private int buys(int minute, int w, int a, int c) {
        return a + w * c < price(minute) ? 1 : 0;
    }

    private int rest(int minute, int w, int c) {
        if (!offer(minute, w, c)) return -1;
        for (int a = 12; a >= 0; a--) {
            if (buys(minute, w, a, c) == 1) return a;
        }
        return -4;
    }

    private int waits(int minute, int price) {
        if (!minute(minute) || !in(price, 0, 20)) return -1;
        for (int t = minute; t < 720; t++) {
            if (price(t) <= price) return t - minute;
        }
        return -4;
    }

    private int otherCheaper() {
        int many = 0;
        for (int t = 0; t < 720; t++) many += price((t + 60) % 720) < price(t) ? 1 : 0;
        return many;
    }

    private int learn(int d, int what) {
        if (!in(what, 0, 2) || !shelf(d)) return -1;
        if (!(shelves[d] instanceof Line line) || line.sort != 2) return refusal(d);
        int[] v = line.values;
        if (v.length % 3 != 0) return -13;
        for (int i = 0; i < v.length; i += 3) {
            if (!minute(v[i]) || !minute(v[i + 1]) || v[i + 1] <= v[i]) return -13;
        }
        List<Integer> drifts = new ArrayList<>();
        for (int drift = -20; drift <= 20; drift++) {
            boolean so = true;
            for (int i = 0; i < v.length; i += 3) so &= v[i + 2] == v[i + 1] + (v[i + 1] - v[i]) * drift / 60;
            if (so) drifts.add(drift);
        }
        if (what == 0) return drifts.size();
        return drifts.isEmpty() ? -4 : drifts.get(what == 1 ? 0 : drifts.size() - 1) + 20;
    }

    // ---- shelves

    private static boolean shelf(int d) {
        return in(d, 0, 7);
    }

    /** Why a SHELF does not hold what is wanted. */
    private int refusal(int d) {
        return !shelf(d) ? -1 : shelves[d] == null ? -11 : -12;
    }

    private int keep(int d, int what, int k) {
        if (!shelf(d) || !in(what, 0, 1) || what == 1 && !there(k)) return -1;
        shelves[d] = what == 0 ? null : new Kept(k, now.lookers.get(k)[0], now.lookers.get(k)[1]);
        return 0;
    }

    private int row(int d, int sort, int n) {
        if (!shelf(d) || !in(sort, 0, 2) || n > 100) return -1;
        if (n < 0) return -14;
        shelves[d] = new Line(sort, new int[n]);
        return 0;
    }

    private int put(int d, int i, int v) {
        if (!shelf(d) || !(shelves[d] instanceof Line line)) return refusal(d);
        if (i < 0 || i >= line.values.length) return -13;
        line.values[i] = line.sort == 0 ? (byte) v : line.sort == 1 ? (short) v : v;
        return 0;
    }

    private long element(int d, int i) {
        if (!shelf(d)) return Calls.BAD_ARGUMENT;
        if (!(shelves[d] instanceof Line line) || i < 0 || i >= line.values.length) return Calls.BAD_STATE;
        return line.values[i];
    }

    private int copy(int d, int i, int e, int j, int n) {
        if (!shelf(d) || !shelf(e)) return -1;
        if (shelves[d] == null || shelves[e] == null) return -11;
        if (!(shelves[d] instanceof Line from) || !(shelves[e] instanceof Line to) || from.sort != to.sort) return -12;
        if (n < 0 || i < 0 || j < 0 || (long) i + n > from.values.length || (long) j + n > to.values.length) return -13;
        int[] before = from.values.clone();
        for (int k = 0; k < n; k++) to.values[j + k] = before[i + k];
        return n;
    }

    private static int skill(Kept one) {
        int clock = 1 + 4;
        return new int[] {1, 1 + one.figure, clock, clock * one.figure, 3 * clock, clock - 2, 1 - 1, clock * one.figure + 9}[one.kind];
    }

    private static int toss(Kept one) {
        if (one.kind == 6 || one.figure == 0) return -15;
        return one.kind == 7 ? 200 + skill(one) : one.number + (one.kind == 4 ? 100 : 0);
    }

    // ---- what a run likes to know

    /** The LOOKS of one's DAY, for a row that is right. */
    int[] looksOf(int k) {
        if (!there(k)) return new int[0];
        cost(k);
        int[] looks = new int[now.looks.size()];
        for (int i = 0; i < looks.length; i++) looks[i] = now.looks.get(i);
        return looks;
    }

    int lastAt() {
        return now.works.isEmpty() ? -1 : now.works.get(now.works.size() - 1)[0];
    }

    int lastPlanned() {
        return now.plan.isEmpty() ? -1 : now.plan.get(now.plan.size() - 1);
    }
}

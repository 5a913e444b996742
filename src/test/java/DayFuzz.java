import java.util.ArrayList;
import java.util.List;
import java.util.Random;

/** Towns by seeds: what the program answers of days, against the model that goes minute by minute. */
final class DayFuzz {
    private static final int TOWNS = 1500;

    private final Random random;
    private final DayModel model = new DayModel();
    private final LookAtClock x;

    private DayFuzz(long seed) {
        random = new Random(seed);
        x = new LookAtClock();
    }

    static void run() {
        for (int seed = 0; seed < TOWNS; seed++) new DayFuzz(seed).compare();
    }

    private void compare() {
        writeTown();
        int sum = 0;
        List<Integer> costs = new ArrayList<>();
        for (int k = 0; k < model.lookers.size(); k++) {
            days(k);
            figures(k);
            live(k);
            costs.add(model.cost);
            sum += model.cost;
        }
        Due.is(26, "sum()", x.sum(), sum);
        Due.is(27, "order()", x.order(), orderOf(costs));
    }

    private static int orderOf(List<Integer> costs) {
        List<Integer> order = new ArrayList<>();
        for (int k = 0; k < costs.size(); k++) order.add(k);
        order.sort((a, b) -> costs.get(a).equals(costs.get(b)) ? a - b : costs.get(a) - costs.get(b));
        int digits = 0;
        for (int i = order.size() - 1; i >= 0; i--) digits = digits * 10 + order.get(i);
        return digits;
    }

    private void live(int k) {
        int[] one = model.lookers.get(k);
        model.live(one[0], one[1], one[2], one[3], model.law);
    }

    private void days(int k) {
        live(k);
        int[] due = {model.cost, model.looks.size(), model.late, model.idle, model.paid};
        for (int what = 0; what < 5; what++) Due.is(9, "day(" + k + ", " + what + ")", x.day(k, what), due[what]);
        for (int i = 0; i <= model.looks.size(); i++) {
            Due.is(10, "look(" + k + ", " + i + ")", x.look(k, i), i < model.looks.size() ? model.looks.get(i) : -4);
        }
        for (int w = 0; w < model.works.size(); w++) {
            Due.is(11, "comes(" + k + ", " + w + ")", x.comes(k, w), model.comings.get(w));
        }
        int own = model.cost;
        int[] one = model.lookers.get(k);
        model.live(0, one[1], one[2], one[3], model.law);
        Due.is(14, "pays(" + k + ")", x.pays(k), model.cost - own);
        for (int law = 0; law < 3; law++) {
            model.live(one[0], one[1], one[2], one[3], law);
            Due.is(25, "byLaw(" + k + ", " + law + ")", x.byLaw(k, law), model.cost);
        }
    }

    private void figures(int k) {
        int[] one = model.lookers.get(k);
        model.live(4, 0, one[2], one[3], model.law);
        Due.is(12, "bestFigure(" + k + ")", x.bestFigure(k), model.bestFigure);
        int always = -4;
        for (int f = 9; f >= 0; f--) {
            model.live(1, f, one[2], one[3], model.law);
            if (model.late == 0) always = f;
        }
        Due.is(13, "always(" + k + ")", x.always(k), always);
        int best = 7;
        int least = Integer.MAX_VALUE;
        for (int kind = 7; kind >= 0; kind--) {
            model.live(kind, one[1], one[2], one[3], model.law);
            if (model.cost <= least) {
                least = model.cost;
                best = kind;
            }
        }
        Due.is(15, "bestKind(" + k + ")", x.bestKind(k), best);
        for (int w = 0; w < model.works.size(); w++) {
            int edge = -4;
            for (int f = 9; f >= 0; f--) {
                model.live(2, f, one[2], one[3], model.law);
                if (model.comings.get(w) <= model.works.get(w)[0]) edge = f;
            }
            Due.is(16, "edge(" + k + ", " + w + ")", x.edge(k, w), edge);
        }
    }

    private void writeTown() {
        int at = random.nextInt(200) - 1;
        for (int i = random.nextInt(6); i > 0 && at < 719; i--) {
            at = Math.min(719, at + 1 + random.nextInt(random.nextBoolean() ? 30 : 300));
            int[] work = {at, random.nextInt(60), random.nextInt(10)};
            model.works.add(work);
            read("w" + work[0] + " " + work[1] + " " + work[2] + ";");
        }
        int minute = random.nextInt(100) - 1;
        for (int i = random.nextInt(9); i > 0 && minute < 719; i--) {
            minute = Math.min(719, minute + 1 + random.nextInt(200));
            model.plan.add(minute);
            read("p" + minute + ";");
        }
        for (int i = 1 + random.nextInt(6); i > 0; i--) {
            int wake = random.nextInt(random.nextInt(4) == 0 ? 720 : 100);
            int[] one = {random.nextInt(8), random.nextInt(10), random.nextInt(41) - 20, wake};
            model.lookers.add(one);
            read("k" + one[0] + one[1] + (one[2] < 0 ? "" : "+") + one[2] + " " + wake + ";");
        }
        model.law = random.nextInt(3);
        x.law(model.law);
    }

    private void read(String text) {
        Due.is(2, text, Towns.read(x, text), 1);
    }
}

import java.util.ArrayList;
import java.util.List;

/** A day minute by minute, in the document's own order of words, to be compared with the program's. */
final class DayModel {
    final List<int[]> works = new ArrayList<>();
    final List<int[]> lookers = new ArrayList<>();
    final List<Integer> plan = new ArrayList<>();
    int law = 0;

    final List<Integer> looks = new ArrayList<>();
    final List<Integer> comings = new ArrayList<>();
    int cost;
    int late;
    int idle;
    int paid;
    int bestFigure;

    static int price(int minute, int law) {
        if (law == 2) return 6;
        int hour = minute / 60 == 0 ? 12 : minute / 60;
        return law == 0 ? hour : hour + minute % 60 / 10;
    }

    void live(int kind, int figure, int drift, int wake, int byLaw) {
        if (kind == 4) {
            bestFigure = 0;
            int least = Integer.MAX_VALUE;
            for (int f = 0; f < 10; f++) {
                live(2, f, drift, wake, byLaw);
                if (cost < least) {
                    least = cost;
                    bestFigure = f;
                }
            }
            live(2, bestFigure, drift, wake, byLaw);
            return;
        }
        looks.clear();
        comings.clear();
        cost = 0;
        late = 0;
        idle = 0;
        paid = 0;
        int latest = wake;
        int free = wake;
        int early = kind == 1 ? 2 * figure : kind == 6 ? figure : 0;
        for (int[] work : works) {
            int at = work[0];
            if (at < wake) {
                comings.add(-4);
                continue;
            }
            int leave = at - work[1];
            boolean looked = false;
            int t = free;
            for (; ; t++) {
                if (would(kind, figure, t, t + (t - latest) * drift / 60 >= leave - 5 * figure, looked, byLaw)) {
                    looked = true;
                    latest = t;
                    looks.add(t);
                    paid += fee(kind, price(t, byLaw));
                }
                if (t == 719 || t + (t - latest) * drift / 60 >= leave - early) break;
            }
            int comes = t + work[1];
            comings.add(comes);
            if (comes > at) {
                late += comes - at;
                cost += (comes - at) * work[2];
                free = comes;
            } else {
                idle += at - comes;
                free = at;
            }
            if (free > 719) free = 719;
        }
        cost += paid;
    }

    private boolean would(int kind, int figure, int t, boolean ripe, boolean looked, int byLaw) {
        switch (kind) {
            case 2:
            case 5: return ripe && !looked;
            case 3:
            case 7: return ripe && !looked && price(t, byLaw) <= figure;
            case 6: return plan.contains(t);
            default: return false;
        }
    }

    private static int fee(int kind, int price) {
        return kind == 5 ? price - price / 2 : kind == 7 ? Math.max(0, price - 2) : price;
    }
}

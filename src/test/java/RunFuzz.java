import java.util.Random;

/** Runs of calls by seeds, 512 at most on an object, each answer against that of PlainTown. */
final class RunFuzz {
    private static final int RUNS = 1200;
    private static final int MOST_CALLS = 512;
    /** From promise 2 on each one's call, with the greatest number that each of its arguments may be told with. */
    private static final String[] CALLS = {"town 7", "price 719", "law 2", "work 4 2", "looker 5 3", "drift 5", "thinks 5 719 719",
        "day 5 4", "look 5 12", "comes 5 4", "bestFigure 5", "always 5", "pays 5", "bestKind 5", "edge 5 4", "waits 719 20",
        "learn 7 2", "shared 719 9", "nine 719 20", "buys 719 60 12 9", "rest 719 60 9", "cheaper 719", "otherCheaper", "byLaw 5 2",
        "sum", "order", "seeded 5 20 2147483647 2", "judge 5 7", "image", "restore", "count 4", "keep 7 1 5", "row 7 2 100",
        "put 7 100 99999", "element 7 100", "copy 7 100 7 100 100", "skill 7", "toss 7"};
    private static final int[] EDGES = {Integer.MIN_VALUE, Integer.MIN_VALUE + 1, -32768, -128, -2, -1, Integer.MAX_VALUE};
    private static final int[] LEAST = {-128, -32768, Integer.MIN_VALUE};

    private final LookAtClock x = new LookAtClock();
    private final PlainTown plain = new PlainTown();
    private final Random random;
    private final int seed;
    private int made = 0;

    private RunFuzz(int seed) {
        random = new Random(seed);
        this.seed = seed;
    }

    static void run() {
        for (int seed = 0; seed < RUNS; seed++) new RunFuzz(seed).callMany();
    }

    private void callMany() {
        text(1 + random.nextInt(8));
        while (made < MOST_CALLS) {
            int chosen = random.nextInt(30);
            if (chosen == 0) text(1 + random.nextInt(3));
            else if (chosen == 1) thoughts();
            else if (chosen < 4) judged();
            else any();
        }
    }

    private void call(String name, int... numbers) {
        if (made == MOST_CALLS) return;
        made++;
        String told = "seed " + seed + ", call " + made + ": " + Calls.told(name, numbers);
        Due.is(promiseOf(name), told, Calls.answer(x, name, numbers), plain.answer(name, numbers));
    }

    private static int promiseOf(String name) {
        int promise = 2;
        while (!CALLS[promise - 2].split(" ")[0].equals(name)) promise++;
        return promise;
    }

    private void any() {
        String[] words = CALLS[random.nextInt(CALLS.length)].split(" ");
        int[] numbers = new int[words.length - 1];
        for (int i = 0; i < numbers.length; i++) numbers[i] = number(Integer.parseInt(words[i + 1]));
        call(words[0], numbers);
    }

    private int number(int greatest) {
        int chosen = random.nextInt(40);
        if (chosen == 0) return EDGES[random.nextInt(EDGES.length)];
        if (chosen == 1) return greatest + 1;
        if (chosen < 12) return Math.min(greatest, random.nextInt(4));
        return random.nextInt(Math.max(1, greatest + 1));
    }

    private void putRow(int d, int sort, int... values) {
        call("row", d, sort, values.length);
        for (int i = 0; i < values.length; i++) call("put", d, i, values[i]);
    }

    private void text(int statements) {
        StringBuilder text = new StringBuilder();
        int at = plain.lastAt();
        int planned = plain.lastPlanned();
        for (int i = 0; i < statements && text.length() < 85; i++) {
            switch (random.nextInt(5)) {
                case 0:
                case 1:
                    at += (random.nextInt(15) == 0 ? 0 : 1) + random.nextInt(random.nextBoolean() ? 40 : 200);
                    text.append('w').append(Math.max(0, at)).append(' ').append(random.nextInt(random.nextInt(9) == 0 ? 70 : 60));
                    text.append(' ').append(random.nextInt(10)).append(';');
                    break;
                case 2:
                    planned += (random.nextInt(15) == 0 ? 0 : 1) + random.nextInt(100);
                    text.append('p').append(Math.max(0, planned)).append(';');
                    break;
                default:
                    text.append('k').append(random.nextInt(random.nextInt(9) == 0 ? 9 : 8)).append(random.nextInt(10));
                    text.append(random.nextBoolean() ? '+' : '-').append(random.nextInt(random.nextInt(9) == 0 ? 24 : 21));
                    text.append(' ').append(random.nextInt(random.nextInt(9) == 0 ? 760 : 120)).append(';');
            }
        }
        if (random.nextInt(12) == 0) text.setCharAt(random.nextInt(text.length()), (char) (random.nextInt(256) - 128));
        int d = random.nextInt(8);
        int[] bytes = new int[Math.min(100, text.length())];
        for (int i = 0; i < bytes.length; i++) bytes[i] = text.charAt(i);
        putRow(d, 0, bytes);
        call("town", d);
    }

    /** Looks told of a drift, now and then spoilt, and asked about. */
    private void thoughts() {
        int[] values = new int[3 * random.nextInt(5) + (random.nextInt(8) == 0 ? 1 : 0)];
        int drift = random.nextInt(41) - 20;
        for (int i = 0; i + 2 < values.length; i += 3) {
            values[i] = random.nextInt(700);
            values[i + 1] = values[i] + 1 + random.nextInt(719 - values[i]);
            values[i + 2] = values[i + 1] + (values[i + 1] - values[i]) * drift / 60;
        }
        if (values.length > 0 && random.nextInt(4) == 0) values[random.nextInt(values.length)] += random.nextInt(3) - 1;
        int d = random.nextInt(8);
        putRow(d, random.nextInt(9) == 0 ? 1 : 2, values);
        for (int what = 0; what < 3; what++) call("learn", d, what);
    }

    /** The looks of one's day, now and then spoilt, and judged. */
    private void judged() {
        int looker = random.nextInt(6);
        int sort = 1 + random.nextInt(2);
        int[] looks = plain.looksOf(looker);
        int[] values = new int[Math.max(0, looks.length + (random.nextInt(3) == 0 ? random.nextInt(3) - 1 : 0))];
        for (int i = 0; i < values.length; i++) {
            values[i] = i < looks.length ? looks[i] : random.nextInt(720);
            if (random.nextInt(6) == 0) values[i] = random.nextBoolean() ? LEAST[sort] : values[i] + 1;
        }
        int d = random.nextInt(8);
        putRow(d, sort, values);
        call("judge", looker, d);
    }
}

import java.util.Random;
import java.util.regex.Matcher;
import java.util.regex.Pattern;

/** Texts by seeds, right ones and spoilt ones, against a pattern that tells whether a text can still go on. */
final class TextFuzz {
    private static final String MINUTE = "(0|[1-9][0-9]{0,2})";
    private static final String SMALL = "(0|[1-9][0-9]?)";
    private static final Pattern TOWN = Pattern.compile("(w" + MINUTE + " " + SMALL + " [0-9];|k[0-9][0-9][+-]" + SMALL
        + " " + MINUTE + ";|l[0-9];|p" + MINUTE + ";)+");
    private static final String BYTES = "wklp0123456789 ;+-x";
    private static final int TEXTS = 20000;

    private TextFuzz() {
    }

    static void run() {
        Random random = new Random(1);
        for (int i = 0; i < TEXTS; i++) {
            String text = spoilt(textOf(random), random);
            Due.is(2, "\"" + text + "\"", Towns.read(new LookAtClock(), text), dueOf(text));
        }
    }

    private static String textOf(Random random) {
        StringBuilder text = new StringBuilder();
        int at = 0;
        int minute = 0;
        for (int i = 1 + random.nextInt(9); i > 0 && text.length() < 85; i--) {
            switch (random.nextInt(5)) {
                case 0:
                    at += random.nextInt(200);
                    text.append('w').append(at).append(' ').append(random.nextInt(62)).append(' ').append(random.nextInt(10));
                    break;
                case 1:
                    text.append('k').append(random.nextInt(9)).append(random.nextInt(10)).append(random.nextBoolean() ? '+' : '-')
                        .append(random.nextInt(23)).append(' ').append(random.nextInt(750));
                    break;
                case 2:
                    text.append('l').append(random.nextInt(20) == 0 ? 3 : random.nextInt(3));
                    break;
                default:
                    minute += random.nextInt(100);
                    text.append('p').append(minute);
            }
            text.append(';');
        }
        return text.toString();
    }

    private static String spoilt(String text, Random random) {
        StringBuilder spoilt = new StringBuilder(text);
        char sign = BYTES.charAt(random.nextInt(BYTES.length()));
        int place = random.nextInt(text.length());
        switch (random.nextInt(6)) {
            case 0: spoilt.setCharAt(place, sign); break;
            case 1: spoilt.insert(place, sign); break;
            case 2: spoilt.deleteCharAt(place); break;
            case 3: spoilt.setLength(place); break;
            default: break;
        }
        return spoilt.toString();
    }

    static int dueOf(String text) {
        int wrong = firstWrong(text);
        return wrong >= 0 ? -1000 - wrong : dueOfNumbers(text);
    }

    /** The place of the first byte with which no TOWN can go on; -1 if there is none. */
    static int firstWrong(String text) {
        if (TOWN.matcher(text).matches()) return -1;
        for (int size = 1; size <= text.length(); size++) {
            Matcher start = TOWN.matcher(text.substring(0, size));
            if (!start.matches() && !start.hitEnd()) return size - 1;
        }
        return text.length();
    }

    private static int dueOfNumbers(String text) {
        int works = 0;
        int lookers = 0;
        int planned = 0;
        int at = -1;
        int minute = -1;
        int place = 0;
        String[] statements = text.split(";");
        for (String statement : statements) {
            String[] words = statement.substring(1).split("[ +-]");
            int first = Integer.parseInt(words[0]);
            boolean right;
            switch (statement.charAt(0)) {
                case 'w':
                    right = ++works <= 5 && first > at && first < 720 && Integer.parseInt(words[1]) < 60;
                    at = first;
                    break;
                case 'k':
                    right = ++lookers <= 6 && first < 80 && Integer.parseInt(words[1]) <= 20 && Integer.parseInt(words[2]) < 720;
                    break;
                case 'l':
                    right = first < 3;
                    break;
                default:
                    right = ++planned <= 8 && first > minute && first < 720;
                    minute = first;
            }
            if (!right) return -2000 - place;
            place += statement.length() + 1;
        }
        return statements.length;
    }
}

import java.lang.reflect.InvocationTargetException;
import java.lang.reflect.Method;
import java.lang.reflect.Modifier;
import java.util.ArrayList;
import java.util.Comparator;
import java.util.List;
import java.util.Random;

/** Any calls with any numbers, 512 on an object: only element throws, and only what the document tells. */
final class AnyCallFuzz {
    private static final int OBJECTS = 600;
    private static final int MOST_CALLS = 512;
    private static final int[] EDGES = {Integer.MIN_VALUE, Integer.MIN_VALUE + 1, -721, -1, 719, 720, 100, 101, 65536,
        Integer.MAX_VALUE - 1, Integer.MAX_VALUE};
    private static final String[] TEXTS = {"w100 10 5;w719 59 9;", "k49-20 0;k65+20 60;", "p0;p60;p719;", "l1;", "k77+3 1;", "w1"};

    private AnyCallFuzz() {
    }

    static void run() {
        List<Method> calls = new ArrayList<>();
        for (Method method : LookAtClock.class.getDeclaredMethods()) {
            if (Modifier.isPublic(method.getModifiers())) calls.add(method);
        }
        calls.sort(Comparator.comparing(Method::getName));
        for (int seed = 0; seed < OBJECTS; seed++) callMany(calls, new Random(seed));
    }

    private static void callMany(List<Method> calls, Random random) {
        LookAtClock x = new LookAtClock();
        boolean asTold = true;
        for (int made = 0; made < MOST_CALLS; made++) {
            String text = TEXTS[random.nextInt(TEXTS.length)];
            if (random.nextInt(40) == 0 && made + text.length() + 2 < MOST_CALLS) {
                Towns.read(x, text);
                made += text.length() + 2;
            }
            Method call = calls.get(random.nextInt(calls.size()));
            Object[] numbers = new Object[call.getParameterCount()];
            for (int k = 0; k < numbers.length; k++) numbers[k] = number(random);
            asTold &= throwsAsTold(x, call, numbers);
        }
        Due.holds("calls throw as told", asTold);
    }

    private static Integer number(Random random) {
        switch (random.nextInt(6)) {
            case 0: return EDGES[random.nextInt(EDGES.length)];
            case 1: return random.nextInt(720);
            default: return random.nextInt(8);
        }
    }

    private static boolean throwsAsTold(LookAtClock x, Method call, Object[] numbers) {
        try {
            call.invoke(x, numbers);
            return true;
        } catch (InvocationTargetException e) {
            Class<?> thrown = e.getCause().getClass();
            boolean told = thrown == IllegalArgumentException.class || thrown == IllegalStateException.class;
            if (told && call.getName().equals("element")) return true;
            System.out.println(call.getName() + " threw " + e.getCause());
            return false;
        } catch (IllegalAccessException e) {
            return false;
        }
    }
}

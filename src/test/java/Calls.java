import java.lang.reflect.InvocationTargetException;
import java.lang.reflect.Method;

/** Calls by their names, so that a call and its numbers can stand in a list. */
final class Calls {
    static final long BAD_ARGUMENT = 2000000001L;
    static final long BAD_STATE = 2000000002L;

    private Calls() {
    }

    /** What a call answers; one of the two numbers above if it throws what the document tells. */
    static long answer(LookAtClock x, String name, int... numbers) {
        Object[] boxed = new Object[numbers.length];
        Class<?>[] types = new Class<?>[numbers.length];
        for (int i = 0; i < numbers.length; i++) {
            boxed[i] = numbers[i];
            types[i] = int.class;
        }
        try {
            Method call = LookAtClock.class.getMethod(name, types);
            return ((Number) call.invoke(x, boxed)).longValue();
        } catch (InvocationTargetException e) {
            Class<?> thrown = e.getCause().getClass();
            if (thrown == IllegalArgumentException.class) return BAD_ARGUMENT;
            if (thrown == IllegalStateException.class) return BAD_STATE;
            throw new IllegalStateException(told(name, numbers), e.getCause());
        } catch (ReflectiveOperationException e) {
            throw new IllegalStateException(told(name, numbers), e);
        }
    }

    static String told(String name, int... numbers) {
        StringBuilder text = new StringBuilder(name).append('(');
        for (int i = 0; i < numbers.length; i++) text.append(i == 0 ? "" : ", ").append(numbers[i]);
        return text.append(')').toString();
    }
}

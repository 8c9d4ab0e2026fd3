import java.lang.reflect.InvocationTargetException;
import java.lang.reflect.Method;
import java.lang.reflect.Modifier;
import java.util.Arrays;
import java.util.Comparator;
import java.util.Set;

/** Each call with the least int, the most int and those about the bounds, all together: each answers, and none throws. */
final class AllCallsTest {
    /** For calls of one to five numbers: fewer, if there are more numbers. */
    private static final int[][] NUMBERS = {
        {},
        {Twins.LEAST, -10, -9, -2, -1, 0, 1, 2, 3, 4, 5, 6, 7, 8, 9, 10, 11, 12, 13, 40, 41, 80, 81, 99, 100, 4095, 4096, Twins.MOST},
        {Twins.LEAST, -9, -1, 0, 1, 2, 3, 4, 5, 6, 7, 8, 9, 11, 12, 40, 41, 80, 81, 4095, Twins.MOST},
        {Twins.LEAST, -9, -4, -3, -1, 0, 1, 2, 3, 4, 5, 6, 9, 10, 40, 80, Twins.MOST},
        {Twins.LEAST, -1, 0, 1, 3, 5, 6, 120, 121, Twins.MOST},
        {Twins.LEAST, -1, 0, 1, 5, 10, Twins.MOST}
    };
    private static final Set<Long> REFUSALS = Set.of(-1L, -2L, -3L, -4L, -6L, -9L);
    /** These answer what they tell, which may be any number. */
    private static final Set<String> TOLD = Set.of("asked", "upper", "lower", "digest");

    private AllCallsTest() {
    }

    static void rule07NoCallOfABareObjectThrows() {
        allCalls(Scenes::bare, 500);
    }

    static void rule07NoCallOfSomeThrows() {
        allCalls(Scenes::some, 300);
    }

    static void rule07NoCallOfAFullObjectThrows() {
        allCalls(Scenes::full, 250);
    }

    static void rule07NoCallOfSpentTurnsThrows() {
        allCalls(Scenes::spent, 300);
    }

    static void rule07NoCallOfNoneHeldThrows() {
        allCalls(Scenes::noneHeld, 400);
    }

    /** A new object after so many calls, since an object is promised to answer just 512. */
    private static void allCalls(Twins.Scene scene, int each) {
        Method[] methods = HandBeasts.class.getDeclaredMethods();
        Arrays.sort(methods, Comparator.comparing(Method::getName));
        for (Method m : methods) {
            if (!Modifier.isPublic(m.getModifiers())) continue;
            int places = m.getParameterCount();
            Object[] numbers = new Object[places];
            int[] from = NUMBERS[places];
            int all = 1;
            for (int i = 0; i < places; i++) all *= from.length;
            HandBeasts x = scene.made();
            for (int n = 0; n < all; n++) {
                if (n % each == each - 1) x = scene.made();
                for (int i = 0, rest = n; i < places; i++, rest /= from.length) numbers[i] = from[rest % from.length];
                call(x, m, numbers);
            }
        }
    }

    private static void call(HandBeasts x, Method m, Object[] numbers) {
        String what = m.getName() + Arrays.toString(numbers);
        try {
            long answer = ((Number) m.invoke(x, numbers)).longValue();
            if (answer < 0 && !TOLD.contains(m.getName()) && !REFUSALS.contains(answer)) throw new AssertionError(what + " answered " + answer);
        } catch (InvocationTargetException e) {
            throw new AssertionError(what + " throws " + e.getCause());
        } catch (IllegalAccessException e) {
            throw new AssertionError(e);
        }
    }
}

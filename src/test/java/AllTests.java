import java.lang.reflect.InvocationTargetException;
import java.lang.reflect.Method;
import java.util.Arrays;
import java.util.Comparator;

/** Runs each static method without parameters of the test classes, and tells how many passed and failed. */
public final class AllTests {
    private static final Class<?>[] TESTS = {
        RowsTest.class, HandsTest.class, PosesTest.class, BeastsTest.class, WaysTest.class,
        LookersTest.class, ToldTest.class, PlainTest.class, LanguageTest.class
    };

    static String program = "src/main/java/HandBeasts.java";
    private static int passed;
    private static int failed;

    private AllTests() {
    }

    public static void main(String[] args) {
        if (args.length > 0) program = args[0];
        for (Class<?> tests : TESTS) runAll(tests);
        System.out.println(passed + " of the own tests passed, " + failed + " failed");
        if (failed > 0 || passed == 0) System.exit(1);
    }

    private static void runAll(Class<?> tests) {
        Method[] methods = tests.getDeclaredMethods();
        Arrays.sort(methods, Comparator.comparing(Method::getName));
        int before = passed + failed;
        for (Method m : methods) {
            boolean isTest = m.getParameterCount() == 0 && m.getReturnType() == void.class && !m.isSynthetic()
                && (m.getName().startsWith("promise") || m.getName().startsWith("rule") || m.getName().startsWith("runs"));
            if (isTest) run(tests, m);
        }
        if (passed + failed == before) {
            failed++;
            System.out.println("FAILED: " + tests.getName() + " has no tests");
        }
    }

    private static void run(Class<?> tests, Method m) {
        try {
            m.setAccessible(true);
            m.invoke(null);
            passed++;
        } catch (InvocationTargetException e) {
            failed++;
            System.out.println("FAILED: " + tests.getName() + "." + m.getName() + ": " + e.getCause());
            if (!(e.getCause() instanceof AssertionError)) e.getCause().printStackTrace(System.out);
        } catch (IllegalAccessException e) {
            failed++;
            System.out.println("FAILED: " + tests.getName() + "." + m.getName() + ": " + e);
        }
    }
}

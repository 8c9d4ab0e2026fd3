import java.lang.reflect.InvocationTargetException;
import java.lang.reflect.Method;
import java.lang.reflect.Modifier;
import java.util.Arrays;
import java.util.Comparator;

/** Runs each static method without parameters of the test classes, and tells how many passed and failed. */
public final class AllTests {
    private static final Class<?>[] TESTS = {
        RowsTest.class, HandsTest.class, PosesTest.class, BeastsTest.class, WaysTest.class,
        LookersTest.class, ToldTest.class,
        EdgesOfRowsTest.class, EdgesOfHandsTest.class, EdgesOfPosesTest.class, EdgesOfBeastsTest.class,
        EdgesOfWaysTest.class, EdgesOfLookersTest.class, EdgesOfToldTest.class,
        RefusalsOfRowsTest.class, RefusalsOfPosesTest.class, RefusalsOfBeastsTest.class, RefusalsOfLookersTest.class,
        AllCallsTest.class, PlainTest.class, LanguageTest.class, FaceTest.class, ReadmeTest.class
    };

    static String program = "src/main/java/HandBeasts.java";
    private static final int MINUTES = 5;
    private static volatile int passed;
    private static volatile int failed;
    private static volatile String current = "";

    private AllTests() {
    }

    public static void main(String[] args) {
        if (args.length > 0) program = args[0];
        failIfItDoesNotEnd();
        for (Class<?> tests : TESTS) runAll(tests);
        System.out.println(passed + " of the own tests passed, " + failed + " failed");
        if (failed > 0 || passed == 0) System.exit(1);
    }

    /** A call that never ends is a failure, too. */
    private static void failIfItDoesNotEnd() {
        Thread watch = new Thread(() -> {
            try {
                Thread.sleep(MINUTES * 60_000L);
            } catch (InterruptedException e) {
                return;
            }
            System.out.println("FAILED: the tests did not end in " + MINUTES + " minutes, at " + current);
            System.out.println(passed + " of the own tests passed, " + (failed + 1) + " failed");
            System.out.flush();
            Runtime.getRuntime().halt(1);
        });
        watch.setDaemon(true);
        watch.start();
    }

    private static void runAll(Class<?> tests) {
        Method[] methods = tests.getDeclaredMethods();
        Arrays.sort(methods, Comparator.comparing(Method::getName));
        int before = passed + failed;
        for (Method m : methods) {
            boolean isTest = m.getParameterCount() == 0 && m.getReturnType() == void.class && !m.isSynthetic()
                && !Modifier.isPrivate(m.getModifiers());
            if (isTest) run(tests, m);
        }
        if (passed + failed == before) {
            failed++;
            System.out.println("FAILED: " + tests.getName() + " has no tests");
        }
    }

    private static void run(Class<?> tests, Method m) {
        current = tests.getName() + "." + m.getName();
        try {
            m.setAccessible(true);
            m.invoke(null);
            passed++;
        } catch (InvocationTargetException e) {
            failed++;
            System.out.println("FAILED: " + tests.getName() + "." + m.getName() + ": " + e.getCause() + placeOf(e.getCause(), m));
            if (!(e.getCause() instanceof AssertionError)) e.getCause().printStackTrace(System.out);
        } catch (IllegalAccessException e) {
            failed++;
            System.out.println("FAILED: " + tests.getName() + "." + m.getName() + ": " + e);
        }
    }

    /** Where in the test it was, since one test may ask much alike. */
    private static String placeOf(Throwable t, Method test) {
        for (StackTraceElement e : t.getStackTrace()) {
            if (e.getMethodName().equals(test.getName())) return " (" + e.getFileName() + ":" + e.getLineNumber() + ")";
        }
        return "";
    }
}

import java.util.Arrays;

/**
 * Looks at refused calls from all sides: of two objects that were made alike, one is asked, and both must then tell
 * the same, but for finding() and findings().
 */
final class Twins {
    static final int LEAST = Integer.MIN_VALUE, MOST = Integer.MAX_VALUE;

    interface Scene {
        HandBeasts made();
    }

    private Twins() {
    }

    /** A scene, and then a call more. */
    static Scene after(Scene scene, Kit.Act call) {
        return () -> {
            HandBeasts x = scene.made();
            call.answer(x);
            return x;
        };
    }

    /** The numbers just out of a least and a most one, and those farthest out. */
    static int[] outside(int least, int most) {
        return new int[] {least - 1, most + 1, LEAST, MOST};
    }

    static void bad(Scene scene, Kit.Act... calls) {
        refuses(scene, HandBeasts.BAD, 0, calls);
    }

    static void finds(int finding, Scene scene, Kit.Act... calls) {
        refuses(scene, HandBeasts.FINDING, finding, calls);
    }

    /** STATE, FULL, SPENT or (though that is no refusal) NONE. */
    static void answers(int want, Scene scene, Kit.Act... calls) {
        refuses(scene, want, 0, calls);
    }

    private static void refuses(Scene scene, int want, int finding, Kit.Act... calls) {
        for (int i = 0; i < calls.length; i++) {
            String what = "call " + i;
            HandBeasts asked = scene.made();
            HandBeasts twin = scene.made();
            int[] due = Kit.withOne(Kit.found(asked), finding);
            Kit.same(what, calls[i].answer(asked), want);
            Kit.same("finding() and findings() after " + what, Arrays.toString(Kit.found(asked)), Arrays.toString(due));
            Kit.same("the object after " + what, portrait(asked), portrait(twin));
        }
    }

    /** All that an object tells, but for finding() and findings(); also what the digest does not tell. */
    static String portrait(HandBeasts x) {
        StringBuilder s = new StringBuilder(Kit.state(x));
        int poses = x.count(3);
        int lookers = x.count(6);
        boolean anyBeast = x.count(5) > 0;
        for (int l = 0; l < lookers; l++) s.append(" l").append(x.agrees(l)).append(' ').append(x.fit(l)).append(' ').append(x.asked());
        for (int p = 0; p < poses; p++) {
            x.about(p, 0);
            s.append(" p").append(x.mark(p, x.asked())).append(' ').append(x.thrown(p, 0)).append(' ').append(x.digest());
        }
        s.append(" m").append(x.many()).append(' ').append(x.asked());
        for (int k = 0; k < 6 && anyBeast; k++) {
            s.append(" k").append(x.nearest(k, 1)).append(' ').append(x.never(k, 2)).append(' ').append(x.digest());
        }
        for (int p = 1; p < poses; p++) s.append(" w").append(x.way(0, p));
        return s.append(" d").append(x.digest()).toString();
    }
}

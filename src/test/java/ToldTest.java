/** Promises 44 to 50: what is told, counted, found; the digest. */
final class ToldTest {
    private static final int NONE = HandBeasts.NONE;

    private ToldTest() {
    }

    /** POSE 0 is HELD, POSE 1 MOVING; BEAST 0 is just what POSE 0 throws. */
    private static HandBeasts scene() {
        HandBeasts x = Kit.withHands("h65f022h20f411", 2);
        Kit.pose(x, NONE, 1, 0, 0);
        Kit.pose(x, 1, 4, 2, -1);
        Kit.beast(x, 0, 0, 5, 5, 5, 4, 5, 3, 8, 1, 8, 2, 8, 3);
        x.looker(1, 2, 3);
        x.call(0, 0, 0);
        Kit.shadow(x, 0, 5, 5, 5, 4, 5, 3, 8, 1, 8, 2, 8, 3);
        return x;
    }

    private interface Act {
        int answer(HandBeasts x);
    }

    /** A call tells by asked() what is due, whatever was told before. */
    private static void tells(String what, Act act, int told) {
        for (int before : new int[] {77, 78}) {
            HandBeasts x = scene();
            Kit.row(x, 2, before);
            x.at(2, 0);
            act.answer(x);
            Kit.same("asked() after " + what, x.asked(), told);
        }
    }

    /** A call leaves asked() as it is. */
    private static void leaves(String what, Act act) {
        HandBeasts x = scene();
        Kit.row(x, 2, 77);
        x.at(2, 0);
        act.answer(x);
        Kit.same("asked() after " + what, x.asked(), 77);
    }

    static void promise44AskedIsToldByThese() {
        tells("lay()", x -> x.lay(0, 2, 1), 256);
        tells("at()", x -> x.at(0, 3), 32 + 256);
        tells("mean()", x -> x.mean(0), (256 + 256 + 32 + 256 + 32 + 32) / 10);
        tells("finger()", x -> x.finger(1, 1), 4);
        tells("joint()", x -> x.joint(0, 1), 2);
        tells("pose()", x -> x.row(3, 2) + x.pose(3, 0), 4);
        tells("about()", x -> x.about(1, 1), 3);
        tells("turn()", x -> x.turn(1, 0), 2);
        tells("off()", x -> x.off(1, 0), 2);
        tells("many()", x -> x.many() + 0 * x.strain(0), 0);
        tells("sets()", x -> x.sets(0), 3);
        tells("where()", x -> x.where(0, 0), 133);
        tells("picture()", x -> x.picture(0), 1);
        tells("two()", x -> x.two(0, 0), 6);
        tells("stiff()", x -> x.stiff(0, 0), 0);
        tells("weight()", x -> x.weight(0, 2), 3);
        tells("guess()", x -> x.guess(0, 1), 2 + 2 * 2 + 3);
        tells("agrees()", x -> x.agrees(0), 1);
        tells("fit()", x -> x.fit(0), 1);
    }

    static void promise44AskedIsLeftByThese() {
        leaves("row()", x -> x.row(4, 4));
        leaves("tear()", x -> x.tear(0));
        leaves("copy()", x -> x.copy(0, 0, 0, 1, 1));
        leaves("text()", x -> x.text(0, 4));
        leaves("put()", x -> x.put(3, 0, 32));
        leaves("fault()", x -> x.fault(3));
        leaves("hands()", x -> x.hands(3));
        leaves("strain()", x -> x.strain(4));
        leaves("lamp()", x -> x.lamp(2, 1, 1));
        leaves("help()", x -> x.help(0, 0));
        leaves("back()", x -> x.back(1));
        leaves("mark()", x -> x.mark(0, 1));
        leaves("shape()", x -> x.shape(0, 1));
        leaves("thrown()", x -> x.thrown(0, 1));
        leaves("beast()", x -> x.beast(1, 0, 0, 1));
        leaves("nearest()", x -> x.nearest(0, 1));
        leaves("never()", x -> x.never(0, 1));
        leaves("way()", x -> x.way(0, 1));
        leaves("unseen()", x -> x.unseen(0, 1, 0, 1));
        leaves("order()", x -> x.order(3, 1));
        leaves("looker()", x -> x.looker(1, 1, 1));
        leaves("call()", x -> x.call(0, 1, 0));
        leaves("odds()", x -> x.odds(0, 0));
        leaves("upper()", x -> (int) x.upper());
        leaves("lower()", x -> (int) x.lower());
        leaves("count()", x -> x.count(3));
        leaves("finding()", x -> x.finding());
        leaves("findings()", x -> x.findings(1));
        leaves("digest()", x -> (int) x.digest());
        leaves("lay() refused", x -> x.lay(0, 10, 1));
        leaves("pose() refused", x -> x.pose(0, NONE));
        leaves("guess() of none", x -> x.guess(0, 5));
    }

    static void promise45And46UpperAndLower() {
        HandBeasts x = scene();
        Kit.same("upper()", x.upper(), 0);
        Kit.same("lower()", x.lower(), 1);
        Kit.beast(x, 1, 1, 0, 0);
        for (int c = 0; c < 3; c++) x.call(0, 0, 1);
        x.odds(0, 1);
        Kit.same("upper()", x.upper(), 3);
        Kit.same("lower()", x.lower(), 4);
        Kit.finds(x, "odds(1, 0)", () -> x.odds(1, 0), Kit.NOUGHT);
        Kit.same("upper() stays", x.upper(), 3);
        Kit.same("lower() stays", x.lower(), 4);
        x.odds(0, 2);
        Kit.same("upper() of none", x.upper(), 0);
        Kit.same("lower() of none", x.lower(), 1);
    }

    private static void counts(HandBeasts x, String what, int... due) {
        for (int i = 0; i < due.length; i++) Kit.same("count(" + i + ") of " + what, x.count(i), due[i]);
    }

    static void promise47Count() {
        HandBeasts x = scene();
        counts(x, "the scene", 2, 2, 2, 2, 2, 1, 1, 1, 4, 1);
        x.text(0, 0);
        x.row(1, 0);
        x.looker(1, 1, 1);
        x.call(1, 1, 0);
        Kit.beast(x, 5, 1, 1, 1);
        x.help(0, 3);
        counts(x, "more", 2, 2, 2, 2, 2, 2, 2, 2, 5, 2);
        Kit.hands(x, "h17f022f1f2f3", 1);
        Kit.pose(x, NONE, 3, 0);
        counts(x, "one HAND", 1, 4, 1, 1, 0, 2, 2, 0, 5, 2);
        x.tear(1);
        counts(x, "a ROW less", 1, 4, 1, 1, 0, 2, 2, 0, 4, 2);
    }

    static void promise48And49Findings() {
        HandBeasts x = new HandBeasts();
        Kit.row(x, 0);
        Kit.finds(x, "NOUGHT", () -> x.mean(0), Kit.NOUGHT);
        Kit.finds(x, "BEYOND", () -> x.at(0, 0), Kit.BEYOND);
        Kit.finds(x, "SIZE", () -> x.row(0, -1), Kit.SIZE);
        Kit.finds(x, "NOTHING", () -> x.tear(1), Kit.NOTHING);
        Kit.hands(x, "h65f011", 1);
        Kit.row(x, 0, 2);
        Kit.finds(x, "UNLIKE", () -> x.pose(0, NONE), Kit.UNLIKE);
        for (int n = 0; n < 3; n++) Kit.finds(x, "NOTHING", () -> x.tear(1), Kit.NOTHING);
        int[] due = {4, 1, 1, 1, 1};
        for (int f = 1; f <= 5; f++) Kit.same("findings(" + f + ")", x.findings(f), due[f - 1]);
        Kit.same("a call that is not refused", x.tear(0), 1);
        Kit.bad(x, "BAD is no FINDING", () -> x.tear(6));
        Kit.same("finding() stays", x.finding(), 1);
    }

    private static long sum(long... all) {
        long h = 17;
        for (long v : all) h = 31 * h + v;
        return h;
    }

    static void promise50DigestOfANewObject() {
        HandBeasts x = new HandBeasts();
        Kit.same("digest()", x.digest(), sum(0, 0, 0, 0, 0, 0, 0, 0, 0, 0, 99, 133,
            -1, -1, -1, -1, -1, -1, -1, -1, -1, -1, -1, -1, -1, -1, -1, -1));
    }

    static void promise50Digest() {
        HandBeasts x = new HandBeasts();
        Kit.text(x, 0, "h65f3f01022h7f202");
        Kit.same("hands()", x.hands(0), 3);
        Kit.row(x, 0, -1, 2, 1);
        Kit.same("pose()", x.pose(0, 2), 0);
        x.strain(1);
        Kit.row(x, 0, 0, -1, 0);
        Kit.same("pose()", x.pose(0, NONE), 1);
        Kit.shadow(x, 1, 3, 0, 0, 9);
        Kit.shadow(x, 2, 11, 4);
        Kit.same("beast()", x.beast(4, 1, 2, 1), 2);
        x.looker(1, 2, 3);
        x.looker(4, 5, 6);
        x.call(1, 0, 4);
        x.call(0, 1, 4);
        x.tear(1);
        x.tear(2);
        Kit.row(x, 5);
        x.text(0, 0);
        x.text(3, 2);
        x.put(3, 1, -5);
        x.lamp(2, -1, 3);
        long due = sum(2, 3, 3, 2, 2, 1, 2, 2, 2, 2, 1, 200 + 20 + 6,
            65, 7,
            0, 3, 0, 0, 0, 0, 0, 2, 1, 2, 2, 1,
            1, 1, 0, 1, 2, 2, 2, 0, 2,
            4, 4, 2, -1, 2, 1,
            1, 1, -9, 0, -1, 0,
            -1, -1, -1, -1,
            8, 0, 0, 0, 0, 0, 0, 0, 0, 1, 0, 0, 0, 0, 2048, 0, 0, 0, 0, 0, 1,
            -1,
            1, 2, 3, 4, 5, 6,
            1, 0, 4, 0, 1, 4,
            3, 0, -1, 0, -1, -1, -1, -1, 0,
            0, -1, -1, 2, 32, -5);
        x.at(0, 1);
        Kit.same("digest()", x.digest(), due);
        Kit.same("asked() stays", x.asked(), -1);
        x.at(9, 9);
        x.at(1, 0);
        Kit.same("digest() takes no FINDINGS in", x.digest(), due);
        Kit.shadow(x, 1, 0, 0);
        x.help(0, 1);
        x.tear(1);
        if (x.digest() == due) throw new AssertionError("help() does not change the digest");
    }
}

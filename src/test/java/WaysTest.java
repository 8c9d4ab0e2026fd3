/** Promises 30, 31, 34: WAYS, also UNSEEN, and POSES in an order by them. */
final class WaysTest {
    private static final int NONE = HandBeasts.NONE, SPENT = HandBeasts.SPENT;
    /** Turns -1 .. 1 of both JOINTS; none of them are BARRED. */
    private static final String GRID = "h65f01111";
    /** Turns -2 and 2 are HELD, those between are BARRED. */
    private static final String GAP = "h17f022";

    private WaysTest() {
    }

    static void promise30Way() {
        HandBeasts x = Kit.withHands("h65f02222", 2);
        Kit.pose(x, NONE, 1, -2, -2);
        Kit.pose(x, NONE, 1, 2, 2);
        Kit.pose(x, 0, 4, -2, -1);
        Kit.pose(x, NONE, 1, -2, -2);
        Kit.same("way(0, 1)", x.way(0, 1), 8);
        Kit.same("way(1, 0)", x.way(1, 0), 8);
        Kit.same("way to itself", x.way(0, 0), 0);
        Kit.same("way to one alike", x.way(0, 3), 0);
        Kit.same("way to a MOVING one, as it begins", x.way(0, 2), 1);
        Kit.same("way from a MOVING one", x.way(2, 1), 7);
        Kit.shadow(x, 0, 1, 1);
        x.help(1, 0);
        Kit.same("way to a HELPED one", x.way(0, 1), 8);
        x.strain(3);
        Kit.refused(x, "no way: not HELD now", () -> x.way(0, 1), NONE);
        Kit.refused(x, "no way to itself: not HELD now", () -> x.way(0, 0), NONE);
        Kit.same("HELD now", x.way(2, 2), 0);
        x.strain(4);
        Kit.same("HELD again", x.way(0, 1), 8);
        Kit.refused(x, "asked() is not told", () -> x.way(0, 1), 8);
    }

    static void promise30WayIsBarred() {
        HandBeasts x = Kit.withHands(GAP, 1);
        Kit.pose(x, NONE, 1, -2);
        Kit.pose(x, NONE, 1, 2);
        Kit.refused(x, "no way", () -> x.way(0, 1), NONE);
        Kit.same("way to itself", x.way(1, 1), 0);
        // the second FINGER stands in the way of the first one's tip, which goes about it by its other JOINT
        Kit.hands(x, "h65f01122h41", 2);
        Kit.pose(x, NONE, 1, -1, 0);
        Kit.pose(x, NONE, 1, 1, 0);
        Kit.refused(x, "HAND 1 at 5, 3 is where 0 would lead", () -> x.way(0, 1), NONE);
        Kit.hands(x, "h65f01122h29", 2);
        Kit.pose(x, NONE, 1, -1, 0);
        Kit.pose(x, NONE, 1, 1, 0);
        Kit.same("HAND 1 at 5, 2 is where 0, 0 would lead", x.way(0, 1), 4);
        x.strain(2);
        Kit.same("0, 1 is in reach still", x.way(0, 1), 4);
        x.strain(1);
        Kit.refused(x, "0, 1 is in reach, not -1, 1", () -> x.way(0, 1), NONE);
    }

    static void promise31Unseen() {
        HandBeasts x = Kit.withHands(GRID, 2);
        Kit.pose(x, NONE, 1, -1, 0);
        Kit.pose(x, NONE, 1, 1, 0);
        Kit.pose(x, NONE, 1, 0, 0);
        Kit.beast(x, 0, 0, 5, 5, 5, 4, 5, 3, 5, 2);
        Kit.same("0, 0 is seen: about it", x.unseen(0, 1, 0, 0), 4);
        Kit.same("also back", x.unseen(1, 0, 0, 0), 4);
        Kit.same("from what is seen", x.unseen(2, 1, 0, 0), 1);
        Kit.same("to what is seen", x.unseen(0, 2, 0, 0), 1);
        Kit.same("seen and stays", x.unseen(2, 2, 0, 0), 0);
        Kit.refused(x, "0, 1 is seen too", () -> x.unseen(0, 1, 0, 2), NONE);
        Kit.refused(x, "all are seen", () -> x.unseen(0, 1, 0, 120), NONE);
        Kit.pose(x, NONE, 1, 0, -1);
        // the first of all TURNS, -1, -1, is seen: 5, 5; 5, 4; 4, 3; and behind them 3, 3
        Kit.beast(x, 1, 0, 5, 5, 5, 4, 4, 3, 3, 3);
        Kit.shadow(x, 4);
        Kit.same("-1, -1 is seen, 0, 0 is not", x.unseen(0, 3, 1, 0), 2);
        Kit.same("-1, -1 is OFF by two of what 0, 0 is", x.unseen(2, 3, 1, 0), 1);
        Kit.same("all are seen, both ends side by side", x.unseen(0, 2, 0, 120), 1);
        x.lamp(1, 0, -1);
        Kit.same("by the LAMP none are seen", x.unseen(0, 1, 0, 0), 2);
        x.lamp(1, 0, 0);
        Kit.shadow(x, 0, 0, 0);
        x.help(0, 0);
        x.help(2, 0);
        Kit.same("CARDS do not count", x.unseen(0, 1, 0, 0), 4);
        x.strain(1);
        Kit.refused(x, "about it is strained", () -> x.unseen(0, 1, 0, 0), NONE);
        x.strain(0);
        Kit.refused(x, "an end is strained", () -> x.unseen(0, 0, 0, 0), NONE);
        Kit.refused(x, "the other end is strained", () -> x.unseen(2, 0, 0, 0), NONE);
    }

    static void promise34Order() {
        HandBeasts x = Kit.withHands("h65f02222", 2);
        Kit.pose(x, NONE, 1, 2, 0);
        Kit.pose(x, NONE, 1, -2, 0);
        Kit.pose(x, 0, 4, 0, 0);
        Kit.pose(x, NONE, 1, 2, 1);
        Kit.same("from the first that is at an end", x.order(7, 0), 4);
        Kit.holds(x, "order(7)", 0, 0, 2, 1);
        Kit.same("of all", x.order(15, 0), 5);
        Kit.holds(x, "order(15)", 0, 1, 2, 0, 3);
        Kit.same("of two", x.order(10, 1), 5);
        Kit.holds(x, "order(10)", 1, 1, 3);
        Kit.same("of one", x.order(4, 0), 0);
        Kit.holds(x, "order(4)", 0, 2);
        x.turn(1, 0);
        Kit.same("of one again", x.order(4, 0), 0);
        Kit.same("asked() is not told", x.asked(), -2);
        Kit.shadow(x, 1, 0, 0);
        x.help(3, 1);
        Kit.same("with a HELPED one", x.order(15, 0), 5);
        x.strain(2);
        Kit.refused(x, "one is not HELD now", () -> x.order(15, 0), NONE);
        Kit.refused(x, "one alone that is not HELD now", () -> x.order(8, 0), NONE);
        Kit.holds(x, "NONE", 0, 1, 2, 0, 3);
        Kit.same("the others are", x.order(7, 0), 4);
    }

    static void promise34OrderOfAlikeOnes() {
        HandBeasts x = Kit.withHands(GRID, 2);
        for (int p = 0; p < 8; p++) Kit.pose(x, NONE, 1, 0, p % 2);
        Kit.same("of eight", x.order(255, 0), 1);
        Kit.holds(x, "the first order of eight", 0, 0, 2, 4, 6, 1, 3, 5, 7);
        Kit.pose(x, NONE, 1, 0, 0);
        Kit.same("POSES of higher numbers", x.order(256 + 128 + 2, 0), 1);
        Kit.holds(x, "POSES of higher numbers", 0, 1, 7, 8);
        Kit.bad(x, "of nine", () -> x.order(511, 0));
        Kit.hands(x, GAP, 1);
        Kit.pose(x, NONE, 1, -2);
        Kit.pose(x, NONE, 1, 2);
        Kit.pose(x, NONE, 1, -2);
        Kit.refused(x, "no WAY", () -> x.order(3, 0), NONE);
        Kit.refused(x, "no WAY to one of three", () -> x.order(7, 0), NONE);
        Kit.same("a WAY of two of three", x.order(5, 0), 0);
        Kit.holds(x, "a WAY of two of three", 0, 0, 2);
    }

}

/** Promises 30, 31, 34: WAYS, also UNSEEN, and POSES in an order, at each bound. */
final class EdgesOfWaysTest {
    private static final int NONE = HandBeasts.NONE;
    /** A WRIST at 5, 5 and a FINGER up whose two JOINTS turn by -1 .. 1; none of the nine TURNS are BARRED. */
    private static final String NINE = "h65f01111";
    /** One JOINT of five turns, none BARRED; and one whose turns -1 .. 1 are BARRED. */
    private static final String FIVE = "h65f022", GAP = "h17f022";

    private EdgesOfWaysTest() {
    }

    /** POSES 0, 1, .. of these HANDS, each of as many turns as there are JOINTS; all HELD. */
    private static HandBeasts posed(String signs, int joints, int... turns) {
        HandBeasts x = Kit.withHands(signs, joints);
        for (int i = 0; i + joints <= turns.length; i += joints) Kit.pose(x, NONE, 1, java.util.Arrays.copyOfRange(turns, i, i + joints));
        return x;
    }

    private static void way(HandBeasts x, int p, int q, int length) {
        Kit.same("way(" + p + ", " + q + ")", x.way(p, q), length);
        Kit.same("way(" + q + ", " + p + ")", x.way(q, p), length);
    }

    // ---- 30 way()

    static void promise30WayToItselfIs0() {
        way(posed(NINE, 2, 1, -1), 0, 0, 0);
    }

    static void promise30WayToOneOfTheSameTurnsIs0() {
        way(posed(NINE, 2, 1, -1, 1, -1), 0, 1, 0);
    }

    static void promise30WayOfNoJointsIs0() {
        HandBeasts x = Kit.withHands("h65", 0);
        Kit.pose(x, NONE, 1);
        Kit.pose(x, NONE, 1);
        way(x, 0, 1, 0);
    }

    static void promise30WayIsByOneJointByOne() {
        HandBeasts x = posed(NINE, 2, 0, 0, 0, 1, 1, 1, -1, 1);
        way(x, 0, 1, 1);
        way(x, 0, 2, 2);
        way(x, 0, 3, 2);
        way(x, 2, 3, 2);
    }

    static void promise30WayIsNotFromTheLastTurnToTheFirst() {
        way(posed(FIVE, 1, -2, 2), 0, 1, 4);
    }

    static void promise30WayIsNotFromOneJointsLastToTheNextOnesFirst() {
        // in the order of all TURNS 0, 1 is just ahead of 1, -1
        way(posed(NINE, 2, 0, 1, 1, -1), 0, 1, 3);
    }

    static void promise30WayFromTheFirstToTheLastOf4096() {
        way(posed(EdgesOfBeastsTest.ALL_HELD, 6, -2, -2, -2, -2, -2, -2, 1, 1, 1, 1, 1, 1), 0, 1, 18);
    }

    static void promise30WayIsByHeldTurnsAlone() {
        HandBeasts x = posed(NINE, 2, 1, -1, -1, 1);
        way(x, 0, 1, 4);
        x.strain(2);
        way(x, 0, 1, 4);
        x.strain(1);
        way(x, 0, 1, NONE);
    }

    static void promise30WayByNoBarredTurns() {
        way(posed(GAP, 1, -2, 2), 0, 1, NONE);
    }

    static void promise30WayAboutBarredTurns() {
        // HAND 1 is at 5, 2, where turns 0, 0 would lead
        HandBeasts x = posed("h65f01111h29", 2, 0, -1, 0, 1, 1, 0, -1, 0);
        way(x, 0, 1, 4);
        way(x, 2, 3, 4);
        way(x, 0, 3, 2);
    }

    static void promise30WayBothEndsAreHeldNow() {
        HandBeasts x = posed(FIVE, 1, 2, 0, 1);
        x.strain(1);
        way(x, 0, 1, NONE);
        way(x, 0, 0, NONE);
        way(x, 1, 2, 1);
        x.strain(2);
        way(x, 0, 1, 2);
        way(x, 0, 0, 0);
    }

    static void promise30WayOfAMovingOneAsItBegins() {
        HandBeasts x = posed(FIVE, 1, 0);
        Kit.pose(x, 0, 4, 0);
        Kit.pose(x, 0, 4, 1);
        way(x, 0, 1, 0);
        way(x, 0, 2, 1);
        way(x, 1, 2, 1);
        x.strain(1);
        way(x, 0, 2, 1);
    }

    static void promise30WayOfAHelpedOne() {
        HandBeasts x = posed(FIVE, 1, 0, 2);
        Kit.row(x, 0, 4095, 4095, 4095, 4095, 4095, 4095, 4095, 4095, 4095, 4095);
        x.help(1, 0);
        way(x, 0, 1, 2);
    }

    static void promise30WayLeavesAsked() {
        HandBeasts x = posed(FIVE, 1, 0, 2);
        Kit.tells(x, "turn()", x.turn(1, 0), 2);
        x.way(0, 1);
        Kit.same("asked()", x.asked(), 2);
    }

    // ---- 31 unseen(). The BEAST is what turns 0 make: 5, 5; 5, 4; 5, 3: these are OFF by 0, all others by 2.

    private static HandBeasts seenAt0() {
        HandBeasts x = posed(FIVE, 1, -2, 2, 0, -1, 1);
        Kit.beast(x, 0, 0, 5, 5, 5, 4, 5, 3);
        return x;
    }

    private static void unseen(HandBeasts x, int p, int q, int d, int length) {
        Kit.same("unseen(" + p + ", " + q + ", 0, " + d + ")", x.unseen(p, q, 0, d), length);
        Kit.same("unseen(" + q + ", " + p + ", 0, " + d + ")", x.unseen(q, p, 0, d), length);
    }

    static void promise31OffOfJustDIsSeen() {
        unseen(seenAt0(), 0, 1, 0, NONE);
        unseen(seenAt0(), 0, 4, 0, NONE);
    }

    static void promise31OffAboveDIsUnseen() {
        unseen(seenAt0(), 0, 3, 1, 1);
        unseen(seenAt0(), 0, 2, 1, 2);
        unseen(seenAt0(), 0, 2, 0, 2);
    }

    static void promise31OffOf2ByEachD() {
        HandBeasts x = seenAt0();
        // from -2 to 0 by -1, which is OFF by 2
        unseen(x, 0, 2, 1, 2);
        unseen(x, 0, 2, 2, NONE);
        unseen(x, 0, 2, 3, NONE);
        unseen(x, 0, 2, 120, NONE);
    }

    static void promise31EndsMayBeSeen() {
        HandBeasts x = seenAt0();
        unseen(x, 2, 4, 0, 1);
        unseen(x, 3, 2, 120, 1);
    }

    static void promise31ToItselfAlsoSeen() {
        HandBeasts x = seenAt0();
        unseen(x, 2, 2, 0, 0);
        unseen(x, 2, 2, 120, 0);
    }

    static void promise31ByD120() {
        HandBeasts x = posed(FIVE, 1, -1, 0, 1);
        Kit.row(x, 3, 4095, 4095, 4095, 4095, 4095, 4095, 4095, 4095, 4095, 4095);
        x.row(4, 10);
        x.beast(0, 3, 4, 0);
        // 117 are MISSED
        unseen(x, 0, 2, 116, 2);
        unseen(x, 0, 2, 117, NONE);
        unseen(x, 0, 2, 120, NONE);
        unseen(x, 0, 1, 120, 1);
    }

    static void promise31OffOf120IsSeenByD120() {
        // by this LAMP nothing is thrown: all is OFF by 120
        HandBeasts x = posed("h69f211", 1, -1, 0, 1);
        Kit.row(x, 3, 4095, 4095, 4095, 4095, 4095, 4095, 4095, 4095, 4095, 4095);
        x.row(4, 10);
        x.beast(0, 3, 4, 0);
        x.lamp(1, 3, 0);
        unseen(x, 0, 2, 119, 2);
        unseen(x, 0, 2, 120, NONE);
    }

    static void promise31AboutWhatIsSeen() {
        HandBeasts x = posed(NINE, 2, 0, -1, 0, 1);
        Kit.beast(x, 0, 0, 5, 5, 5, 4, 5, 3, 5, 2);
        way(x, 0, 1, 2);
        unseen(x, 0, 1, 0, 4);
    }

    /** HAND 1 is where 0, 0 would lead; what is seen is one of the other eight: then the WAY is about the other side. */
    private static void seenBeside(int j0, int j1) {
        HandBeasts x = posed("h65f01111h29", 2, j0, j1, 0, j1, j0, 0);
        x.shape(0, 3);
        x.row(4, 10);
        x.beast(0, 3, 4, 0);
        way(x, 1, 2, 2);
        unseen(x, 1, 2, 0, 6);
    }

    static void promise31TheFirstOfAllTurnsIsSeen() {
        seenBeside(-1, -1);
    }

    static void promise31TheLastOfAllTurnsIsSeen() {
        seenBeside(1, 1);
    }

    static void promise31TurnsBetweenAreSeen() {
        seenBeside(-1, 1);
        seenBeside(1, -1);
    }

    static void promise31IsByTheLampNow() {
        HandBeasts x = seenAt0();
        x.lamp(1, 3, 3);
        unseen(x, 0, 1, 0, 4);
        x.lamp(1, 0, 0);
        unseen(x, 0, 1, 0, NONE);
    }

    static void promise31IsByHeldTurns() {
        HandBeasts x = seenAt0();
        x.strain(1);
        unseen(x, 2, 4, 0, 1);
        unseen(x, 0, 3, 0, NONE);
        unseen(x, 0, 0, 0, NONE);
        HandBeasts y = posed(GAP, 1, -2, 2);
        Kit.beast(y, 0, 0, 0, 0);
        unseen(y, 0, 1, 0, NONE);
    }

    static void promise31IsWithoutCards() {
        HandBeasts x = posed(FIVE, 1, -2, 0, 2);
        Kit.beast(x, 0, 0, 5, 5, 5, 4, 5, 3);
        Kit.row(x, 0, 4095, 0, 0, 0, 0, 0, 0, 0, 0, 0);
        x.help(1, 0);
        unseen(x, 0, 2, 0, NONE);
    }

    // ---- 34 order()

    private static void order(HandBeasts x, int set, int length, int... poses) {
        Kit.same("order(" + set + ")", x.order(set, 0), length);
        Kit.holds(x, "order(" + set + ")", 0, poses);
    }

    static void promise34OrderOfOne() {
        HandBeasts x = posed(FIVE, 1, 2, 1, 0);
        order(x, 1, 0, 0);
        order(x, 2, 0, 1);
        order(x, 4, 0, 2);
    }

    static void promise34OrderOfNoJoints() {
        HandBeasts x = new HandBeasts();
        for (int p = 0; p < 8; p++) Kit.pose(x, NONE, 1);
        order(x, 1, 0, 0);
        order(x, 255, 0, 0, 1, 2, 3, 4, 5, 6, 7);
    }

    static void promise34OrderOfOneThatIsNotHeldNow() {
        HandBeasts x = posed(FIVE, 1, 2, 1);
        x.strain(1);
        Kit.row(x, 0, 5, 6);
        Kit.refused(x, "order(1)", () -> x.order(1, 0), NONE);
        Kit.holds(x, "order(1)", 0, 5, 6);
        order(x, 2, 0, 1);
    }

    static void promise34OrderOfEight() {
        HandBeasts x = posed(NINE, 2, 0, 0, -1, -1, 1, 1, -1, 0, 1, 0, 0, -1, 0, 1, -1, 1);
        // all but 1, -1: from 0, 0 to 1, 0 and about, so that each is beside the one ahead
        order(x, 255, 7, 0, 4, 2, 6, 7, 3, 1, 5);
    }

    static void promise34OrderOfPosesOfTheHighestNumbers() {
        HandBeasts x = Scenes.full();
        // of POSE p JOINT 0 is at p % 5 - 2, JOINT 1 at p / 6
        order(x, 1 << 11, 0, 11);
        order(x, 1 << 11 | 1, 2, 0, 11);
        // 2, 0; then 2, 1; 1, 1; 0, 1; twice -1, 1; -2, 1; then -2, 0
        order(x, 0xff0, 6, 4, 9, 8, 7, 6, 11, 10, 5);
    }

    static void promise34TheFirstOfAlikeOrders() {
        HandBeasts x = posed(FIVE, 1, 0, 0, 0);
        order(x, 7, 0, 0, 1, 2);
        HandBeasts y = posed(FIVE, 1, -1, 1);
        order(y, 3, 2, 0, 1);
        HandBeasts z = posed(FIVE, 1, 0, 2, 1, -1);
        // from the end that is of the lower number
        order(z, 15, 3, 1, 2, 0, 3);
    }

    static void promise34OrderIsByHeldTurns() {
        HandBeasts x = posed(NINE, 2, 0, 1, 1, 0, 1, 1);
        order(x, 3, 2, 0, 1);
        x.strain(1);
        order(x, 3, 2, 0, 1);
        Kit.same("one is not HELD now", x.order(7, 0), NONE);
        x.strain(0);
        Kit.same("none are HELD now", x.order(3, 0), NONE);
    }

    static void promise34OrderOfNoWay() {
        HandBeasts x = posed(GAP, 1, -2, 2, -2);
        Kit.row(x, 0, 5, 6);
        Kit.refused(x, "order()", () -> x.order(3, 0), NONE);
        Kit.refused(x, "order()", () -> x.order(7, 0), NONE);
        Kit.refused(x, "order()", () -> x.order(6, 0), NONE);
        Kit.holds(x, "order()", 0, 5, 6);
        order(x, 5, 0, 0, 2);
    }

    static void promise34OrderOfMovingAndHelpedOnes() {
        HandBeasts x = posed(FIVE, 1, 2);
        Kit.pose(x, 0, 4, -1);
        Kit.pose(x, NONE, 1, 0);
        Kit.shadow(x, 0, 0, 0);
        x.help(2, 0);
        order(x, 7, 3, 0, 2, 1);
    }

    static void promise34OrderIsToARowAnew() {
        HandBeasts x = posed(FIVE, 1, 2, 1);
        for (int r = 0; r < 6; r++) {
            x.row(r, 40);
            Kit.same("order()", x.order(3, r), 1);
            Kit.holds(x, "order()", r, 0, 1);
        }
        x.tear(5);
        Kit.same("order()", x.order(3, 5), 1);
        Kit.holds(x, "order() to a ROW that was missing", 5, 0, 1);
    }
}

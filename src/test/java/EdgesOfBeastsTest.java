/** Section 3 and promises 24 to 29, 32, 33, 35, 36: BEASTS, what HELD TURNS throw, LAMPS, at each bound. */
final class EdgesOfBeastsTest {
    private static final int NONE = HandBeasts.NONE, SPENT = HandBeasts.SPENT;
    /** The WRIST at 5, 5; the FINGER: 5, 4, then by its turn -2 .. 2: 4, 4; 4, 3; 5, 3; 6, 3; 6, 4. */
    private static final String ONE = "h65f022";
    /** The WRIST at 5, 1; the FINGER: 5, 0; only turns -2 (4, 0) and 2 (6, 0) are not BARRED. */
    private static final String EDGE = "h17f022";
    /**
     * 4096 TURNS, none BARRED: two HANDS of three FINGERS of one JOINT (-2 .. 1). HAND 0: 2, 2; FINGER 0: 2, 1, then
     * 1, 1; 1, 0; 2, 0; 3, 0. FINGER 1: 3, 3, then 4, 2; 4, 3; 4, 4; 3, 4. FINGER 2: 1, 3, then 2, 4; 1, 4; 0, 4; 0, 3.
     * HAND 1 (8, 6) is like it, 6 and 4 on. So many TURNS of n without signs together as there are n out of 12.
     */
    static final String ALL_HELD = "h26f021f321f521h80f021f321f521";
    /** What is dark by turns 1 of all JOINTS: of HAND 0, of HAND 1. */
    private static final int[] LAST_0 = {2, 2, 2, 1, 3, 0, 3, 3, 3, 4, 1, 3, 0, 3};
    private static final int[] LAST_1 = {8, 6, 8, 5, 9, 4, 9, 7, 9, 8, 7, 7, 6, 7};
    private static final int[] ALL_LINES = {4095, 4095, 4095, 4095, 4095, 4095, 4095, 4095, 4095, 4095};

    private EdgesOfBeastsTest() {
    }

    private static int[] both(int[] a, int[] b) {
        int[] all = java.util.Arrays.copyOf(a, a.length + b.length);
        System.arraycopy(b, 0, all, a.length, b.length);
        return all;
    }

    /** BEASTS 0: turns 1 of all JOINTS, 1: of HAND 0's alone, 2: of HAND 1's alone, 3: all CELLS. */
    private static HandBeasts allHeld() {
        HandBeasts x = Kit.withHands(ALL_HELD, 6);
        Kit.beast(x, 0, 0, both(LAST_0, LAST_1));
        Kit.beast(x, 1, 0, LAST_0);
        Kit.beast(x, 2, 0, LAST_1);
        Kit.row(x, 3, ALL_LINES);
        x.beast(3, 3, 3, 0);
        return x;
    }

    private static HandBeasts posed(String signs, int... turns) {
        HandBeasts x = Kit.withHands(signs, turns.length);
        Kit.pose(x, NONE, 1, turns);
        return x;
    }

    /** A BEAST by MUST and MAY, each told by x, y. */
    private static void beast(HandBeasts x, int k, int[] must, int[] may) {
        Kit.shadow(x, 3, must);
        Kit.shadow(x, 4, may);
        Kit.same("beast()", x.beast(k, 3, 4, 0), must.length / 2);
    }

    private static int[] cells(int... xy) {
        return xy;
    }

    // ---- 24 beast()

    static void promise24EachBeastIsOneOfItsOwn() {
        HandBeasts x = posed("h65");
        for (int k = 0; k < 6; k++) {
            Kit.beast(x, k, k % 2, java.util.Arrays.copyOf(cells(0, 0, 1, 0, 2, 0, 3, 0, 4, 0, 6, 0), 2 * k));
            Kit.same("count(5)", x.count(5), k + 1);
        }
        for (int k = 0; k < 6; k++) Kit.both(x, "off(0, " + k + ")", x.off(0, k), k + 1, k);
    }

    static void promise24MustOfNoneAndOfAllCells() {
        HandBeasts x = new HandBeasts();
        Kit.shadow(x, 0);
        Kit.row(x, 1, ALL_LINES);
        Kit.same("MUST of none", x.beast(0, 0, 1, 0), 0);
        Kit.same("MUST of all", x.beast(0, 1, 0, 1), 120);
    }

    static void promise24MustIsCountedNotMay() {
        HandBeasts x = new HandBeasts();
        beast(x, 0, cells(0, 0), cells(1, 1, 2, 2, 3, 3));
        beast(x, 0, cells(0, 0, 11, 9), cells(0, 0));
    }

    static void promise24MustAndMayOfOneRow() {
        HandBeasts x = posed("h65");
        Kit.shadow(x, 0, 5, 5, 6, 6);
        Kit.same("beast()", x.beast(0, 0, 0, 0), 2);
        Kit.both(x, "off()", x.off(0, 0), 1, 1);
    }

    static void promise24BeastOfEachRow() {
        for (int r = 0; r < 6; r++) {
            HandBeasts x = posed("h65");
            Kit.shadow(x, r, 0, 0);
            Kit.shadow(x, 5 - r, 5, 5, 7, 7);
            Kit.same("beast()", x.beast(0, r, 5 - r, 0), 1);
            Kit.both(x, "off()", x.off(0, 0), 1, 1);
        }
    }

    static void promise24BeastAnewIsAllAnew() {
        HandBeasts x = posed("h65");
        beast(x, 0, cells(0, 0, 1, 1), cells(5, 5));
        Kit.both(x, "off()", x.off(0, 0), 2, 2);
        beast(x, 0, cells(3, 3), cells(4, 4));
        Kit.both(x, "off()", x.off(0, 0), 2, 1);
        Kit.same("count(5)", x.count(5), 1);
    }

    static void promise24BeastIsOfRowsAsTheyWere() {
        HandBeasts x = posed("h65");
        beast(x, 0, cells(0, 0), cells(5, 5));
        x.row(3, 10);
        x.tear(4);
        Kit.both(x, "off()", x.off(0, 0), 1, 1);
    }

    static void promise24MovesOf0And1() {
        HandBeasts x = posed(ONE, 0);
        Kit.pose(x, 0, 4, 0);
        Kit.beast(x, 0, 0, 5, 5);
        Kit.beast(x, 1, 1, 5, 5);
        x.looker(0, 0, 1);
        Kit.both(x, "guess() of a still one", x.guess(0, 0), 0, 0);
        Kit.both(x, "guess() of a MOVING one", x.guess(0, 1), 1, 0);
    }

    // ---- 25 off()

    private static void off(String what, int[] must, int[] may, int missed, int over) {
        HandBeasts x = posed(ONE, 0);
        beast(x, 0, must, may);
        Kit.both(x, what, x.off(0, 0), missed + over, missed);
    }

    static void promise25NothingIsOff() {
        off("all that must be", cells(5, 5, 5, 4, 5, 3), cells(), 0, 0);
        off("all that may be", cells(), cells(5, 5, 5, 4, 5, 3), 0, 0);
        off("all of both", cells(5, 5), cells(5, 4, 5, 3), 0, 0);
    }

    static void promise25MissedIsMustThatIsNotDark() {
        off("one", cells(5, 5, 5, 4, 5, 3, 0, 0), cells(), 1, 0);
        off("four", cells(5, 5, 5, 4, 5, 3, 0, 0, 11, 0, 0, 9, 11, 9), cells(), 4, 0);
    }

    static void promise25MayThatIsNotDarkIsNotMissed() {
        off("none", cells(5, 5, 5, 4, 5, 3), cells(0, 0, 11, 0, 0, 9, 11, 9), 0, 0);
    }

    static void promise25MustThatIsMayTooIsMissed() {
        off("one", cells(5, 5, 5, 4, 5, 3, 0, 0), cells(0, 0), 1, 0);
    }

    static void promise25OverIsDarkThatIsOfNeither() {
        off("one", cells(5, 5), cells(5, 4), 0, 1);
        off("three", cells(), cells(), 0, 3);
    }

    static void promise25MustThatIsMayTooIsNotOver() {
        off("none", cells(5, 5, 5, 4, 5, 3), cells(5, 5, 5, 4, 5, 3), 0, 0);
    }

    static void promise25OffOfNone() {
        HandBeasts x = posed("");
        beast(x, 0, cells(), cells());
        Kit.both(x, "off()", x.off(0, 0), 0, 0);
    }

    static void promise25OffOfAllCells() {
        HandBeasts x = posed("");
        Kit.row(x, 0, ALL_LINES);
        x.beast(0, 0, 0, 0);
        Kit.both(x, "120 MISSED", x.off(0, 0), 120, 120);
        Kit.row(x, 1, ALL_LINES);
        x.help(0, 1);
        Kit.both(x, "none MISSED", x.off(0, 0), 0, 0);
        beast(x, 0, cells(), cells());
        Kit.both(x, "120 OVER", x.off(0, 0), 120, 0);
    }

    static void promise25OffIsByTheLamp() {
        HandBeasts x = posed("h65");
        beast(x, 0, cells(8, 2), cells());
        Kit.both(x, "by LAMP 1, 0, 0", x.off(0, 0), 2, 1);
        x.lamp(1, 3, -3);
        Kit.both(x, "by LAMP 1, 3, -3", x.off(0, 0), 0, 0);
        x.lamp(2, -3, -3);
        Kit.both(x, "by LAMP 2, -3, -3", x.off(0, 0), 5, 1);
    }

    static void promise25OffIsWithTheCard() {
        HandBeasts x = posed("h65");
        beast(x, 0, cells(5, 5, 0, 0), cells(1, 1));
        Kit.both(x, "with no CARD", x.off(0, 0), 1, 1);
        Kit.shadow(x, 0, 0, 0, 1, 1, 2, 2);
        x.help(0, 0);
        Kit.both(x, "with a CARD", x.off(0, 0), 1, 0);
    }

    static void promise25OffOfEachKind() {
        HandBeasts x = Scenes.some();
        x.lamp(1, 0, 0);
        // MUST 5, 5; 5, 4; 5, 3, no MAY; HAND 1 is OVER by 11, 0; 11, 1 and (if not BARRED) one more
        Kit.both(x, "HELD", x.off(0, 0), 3, 0);
        Kit.both(x, "MOVING: 6, 3", x.off(1, 0), 5, 1);
        Kit.both(x, "HELPED: 4, 3, CARD of 0, 9; 11, 9; 6, 5", x.off(2, 0), 8, 1);
        Kit.both(x, "STRAINED: 6, 4", x.off(3, 0), 5, 1);
        Kit.both(x, "BARRED: 5, 3", x.off(4, 0), 2, 0);
    }

    // ---- 26 many()

    static void promise26OneOfNoJoints() {
        HandBeasts x = Kit.withHands("h65f2", 0);
        Kit.both(x, "many()", x.many(), 1, 0);
        x.strain(0);
        Kit.both(x, "many()", x.many(), 1, 0);
    }

    static void promise26NoneOfNoJoints() {
        HandBeasts x = Kit.withHands("h5f0", 0);
        Kit.both(x, "many()", x.many(), 0, 0);
    }

    static void promise26All4096() {
        HandBeasts x = allHeld();
        Kit.both(x, "many()", x.many(), 4096, 0);
    }

    static void promise26Of4096ByEachStrain() {
        HandBeasts x = allHeld();
        int held = 0;
        int[] outOf12 = {1, 12, 66, 220, 495, 792, 924, 792, 495, 220, 66, 12, 1};
        for (int v = 0; v <= 12; v++) {
            held += outOf12[v];
            x.strain(v);
            Kit.both(x, "many() of STRAIN " + v, x.many(), held, 4096 - held);
        }
    }

    static void promise26TheSixthFingerOfTheMostTurns() {
        // HAND 0 is far away; of 125 turns just 2, 2, 2 and -2, -2, -2 lead back to the WRIST
        HandBeasts x = Kit.withHands("h26f0f1f2f3f4h80f0222222", 3);
        Kit.both(x, "many()", x.many(), 123, 0);
    }

    static void promise26StrainedThatAreBarredDoNotCount() {
        HandBeasts x = Kit.withHands(EDGE, 1);
        x.strain(0);
        Kit.both(x, "many()", x.many(), 0, 2);
        x.strain(1);
        Kit.both(x, "many()", x.many(), 0, 2);
        x.strain(2);
        Kit.both(x, "many()", x.many(), 2, 0);
    }

    static void promise26ManyIsByStrainNow() {
        HandBeasts x = posed(ONE, 2);
        x.strain(1);
        Kit.both(x, "many()", x.many(), 3, 2);
        Kit.same("HELD POSES are as they were told", x.count(4), 1);
    }

    /** Just 4096 TURNS are not SPENT for any call. */
    static void promise26NotSpentBy4096() {
        HandBeasts x = allHeld();
        Kit.pose(x, NONE, 1, -2, -2, -2, -2, -2, -2);
        Kit.pose(x, NONE, 1, 1, 1, 1, 1, 1, 1);
        Kit.same("many()", x.many(), 4096);
        Kit.same("nearest()", x.nearest(0, 0), 0);
        Kit.same("never()", x.never(0, 0), 0);
        x.shape(1, 0);
        Kit.same("sets()", x.sets(0), 1);
        Kit.same("picture()", x.picture(0), 133);
        Kit.same("way()", x.way(0, 1), 18);
        Kit.same("unseen()", x.unseen(0, 1, 3, 0), 18);
        Kit.same("order()", x.order(3, 0), 18);
        Kit.same("two()", x.two(1, 2), 0);
        Kit.same("stiff()", x.stiff(5, 0), 2);
    }

    /** 4500 are the fewest that are more. */
    private static void spent(String signs) {
        HandBeasts x = Kit.withHands(signs, 6);
        Kit.beast(x, 0, 0, 5, 5);
        Kit.pose(x, NONE, 1, 0, 0, 0, 0, 0, 0);
        Kit.shadow(x, 0, 5, 5);
        Kit.same("many()", x.many(), SPENT);
        Kit.same("nearest()", x.nearest(0, 1), SPENT);
        Kit.same("never()", x.never(0, 1), SPENT);
        Kit.same("sets()", x.sets(0), SPENT);
        Kit.same("picture()", x.picture(0), SPENT);
        Kit.same("way()", x.way(0, 0), SPENT);
        Kit.same("unseen()", x.unseen(0, 0, 0, 0), SPENT);
        Kit.same("order()", x.order(1, 1), SPENT);
        Kit.same("stiff()", x.stiff(0, 0), SPENT);
        if (x.count(0) == 2) Kit.same("two()", x.two(0, 0), SPENT);
    }

    static void promise26SpentBy4500() {
        spent(Scenes.TURNS_4500);
        spent("h65f0112222f4222111");
        spent(Scenes.TURNS_4500 + "h3");
    }

    /** Those of each HAND alone are few: the reading of this project is that two() is SPENT, too. */
    static void promise26SpentBy4500OfBothHands() {
        spent("h62f0222222h68f4211111");
    }

    static void promise26SpentAndNotAnyMore() {
        HandBeasts x = Kit.withHands(Scenes.TURNS_4500, 6);
        Kit.same("many()", x.many(), SPENT);
        Kit.hands(x, Scenes.TURNS_4096, 6);
        if (x.many() <= 0) throw new AssertionError("4096 are SPENT");
        Kit.hands(x, ONE, 1);
        Kit.both(x, "many()", x.many(), 5, 0);
    }

    static void promise26SpentIsNotByBarredOnesLeftOut() {
        // all are BARRED, but they are more than 4096
        HandBeasts x = Kit.withHands("h5f0222222f0222222", 6);
        Kit.same("many()", x.many(), SPENT);
    }

    // ---- 27 nearest()

    static void promise27NearestIsTheFirstTurns() {
        HandBeasts x = allHeld();
        Kit.same("nearest() to all CELLS", x.nearest(3, 0), 120 - 14);
        Kit.holds(x, "nearest()", 0, -2, -2, -2, -2, -2, -2);
    }

    static void promise27NearestIsTheLastTurns() {
        HandBeasts x = allHeld();
        Kit.same("nearest()", x.nearest(0, 0), 0);
        Kit.holds(x, "nearest()", 0, 1, 1, 1, 1, 1, 1);
    }

    static void promise27NearestIsHeld() {
        HandBeasts x = allHeld();
        x.strain(5);
        Kit.same("nearest()", x.nearest(0, 0), 2);
        Kit.holds(x, "nearest()", 0, 0, 1, 1, 1, 1, 1);
        x.strain(6);
        Kit.same("nearest()", x.nearest(0, 0), 0);
        x.strain(0);
        Kit.same("nearest()", x.nearest(0, 0), 12);
        Kit.holds(x, "nearest()", 0, 0, 0, 0, 0, 0, 0);
    }

    static void promise27FirstByJoint0AheadOfJoint1() {
        // all CELLS must be: all TURNS are alike OFF
        HandBeasts x = Kit.withHands("h65f02222", 2);
        Kit.row(x, 3, ALL_LINES);
        x.beast(0, 3, 3, 0);
        Kit.same("nearest()", x.nearest(0, 0), 116);
        Kit.holds(x, "nearest()", 0, -2, -2);
        x.strain(2);
        Kit.same("nearest() of STRAIN 2", x.nearest(0, 0), 116);
        Kit.holds(x, "nearest() of STRAIN 2", 0, -2, 0);
        x.strain(0);
        Kit.same("nearest() of STRAIN 0", x.nearest(0, 0), 116);
        Kit.holds(x, "nearest() of STRAIN 0", 0, 0, 0);
    }

    static void promise27FirstByLessOfJoint0WithMoreOfJoint1() {
        // 5, 4; then -1, 2: 4, 3; 5, 2 - and 0, 0: 5, 3; 5, 2; both miss one of 4, 3 and 5, 3
        HandBeasts x = Kit.withHands("h65f01122", 2);
        beast(x, 0, cells(5, 5, 5, 4, 4, 3, 5, 3, 5, 2), cells());
        Kit.same("nearest()", x.nearest(0, 0), 1);
        Kit.holds(x, "nearest()", 0, -1, 2);
    }

    static void promise27NearestOfAFingerOf125TurnsBehindAnother() {
        // 2, 5; 2, 4; by turn 1 3, 3 - and 8, 5; 8, 4; by turns 0, 0, 1 8, 3; 8, 2; 9, 1
        HandBeasts x = Kit.withHands("h62f022h68f0222222", 4);
        Kit.beast(x, 0, 0, 2, 5, 2, 4, 3, 3, 8, 5, 8, 4, 8, 3, 8, 2, 9, 1);
        Kit.same("nearest()", x.nearest(0, 0), 0);
        Kit.holds(x, "nearest()", 0, 1, 0, 0, 1);
        // of its 125 turns just 2, 2, 2 and -2, -2, -2 lead back to the WRIST
        Kit.both(x, "many()", x.many(), 5 * 123, 0);
    }

    static void promise27NearestIsToARowAnew() {
        HandBeasts x = Kit.withHands(ONE, 1);
        Kit.beast(x, 0, 0, 6, 4);
        for (int r = 0; r < 6; r++) {
            x.row(r, 40);
            Kit.same("nearest()", x.nearest(0, r), 2);
            Kit.holds(x, "nearest()", r, 2);
        }
    }

    static void promise27NearestIsToAMissingRow() {
        HandBeasts x = Kit.withHands(ONE, 1);
        Kit.beast(x, 0, 0, 6, 4);
        x.tear(4);
        Kit.same("nearest()", x.nearest(0, 4), 2);
        Kit.holds(x, "nearest()", 4, 2);
    }

    static void promise27NearestOfNoJoints() {
        HandBeasts x = Kit.withHands("h65", 0);
        Kit.beast(x, 0, 0, 6, 4);
        Kit.row(x, 0, 1, 2, 3);
        Kit.same("nearest()", x.nearest(0, 0), 2);
        Kit.holds(x, "nearest()", 0);
    }

    static void promise27NearestOfNoneHeldLeavesTheRow() {
        HandBeasts x = Scenes.noneHeld();
        Kit.same("nearest()", x.nearest(0, 1), NONE);
        Kit.holds(x, "nearest()", 1, 7, 8);
        Kit.same("nearest() to a ROW that is missing", x.nearest(0, 5), NONE);
        Kit.finds(x, "at()", () -> x.at(5, 0), Kit.NOTHING);
    }

    static void promise27NearestIsByTheLamp() {
        HandBeasts x = Kit.withHands(ONE, 1);
        Kit.beast(x, 0, 0, 8, 8, 8, 7, 7, 7);
        Kit.same("nearest()", x.nearest(0, 0), 6);
        x.lamp(1, 3, 3);
        Kit.same("nearest()", x.nearest(0, 0), 0);
        Kit.holds(x, "nearest()", 0, -2);
    }

    // ---- 28 never()

    static void promise28NeverOfNoMust() {
        HandBeasts x = Kit.withHands(ONE, 1);
        Kit.beast(x, 0, 0);
        Kit.same("never()", x.never(0, 0), 0);
        Kit.holdsShadow(x, "never()", 0);
    }

    static void promise28NeverOfAllCells() {
        HandBeasts x = allHeld();
        Kit.same("never()", x.never(3, 0), 120 - 32);
        x.strain(1);
        Kit.same("never() of STRAIN 1", x.never(3, 0), 120 - 26);
        x.strain(0);
        Kit.same("never() of STRAIN 0", x.never(3, 0), 120 - 14);
    }

    static void promise28NeverOfNoHands() {
        HandBeasts x = new HandBeasts();
        Kit.row(x, 0, ALL_LINES);
        x.beast(0, 0, 0, 0);
        Kit.same("never()", x.never(0, 1), 120);
        Kit.holds(x, "never()", 1, ALL_LINES);
    }

    static void promise28NeverOfNoneHeld() {
        HandBeasts x = Kit.withHands("h5f0", 0);
        Kit.beast(x, 0, 0, 5, 0, 0, 0);
        Kit.same("never()", x.never(0, 0), 2);
        Kit.holdsShadow(x, "never()", 0, 5, 0, 0, 0);
    }

    static void promise28NeverByEachTurn() {
        HandBeasts x = Kit.withHands(ONE, 1);
        Kit.beast(x, 0, 0, 4, 4, 4, 3, 5, 3, 6, 3, 6, 4, 7, 4);
        Kit.same("never()", x.never(0, 0), 1);
        Kit.holdsShadow(x, "never()", 0, 7, 4);
        x.strain(1);
        Kit.same("never() of STRAIN 1", x.never(0, 0), 3);
        Kit.holdsShadow(x, "never() of STRAIN 1", 0, 4, 4, 6, 4, 7, 4);
    }

    static void promise28NeverByBarredTurns() {
        HandBeasts x = Kit.withHands("h65f022h40", 1);
        // 4, 3 is HAND 1's; turns 0, 1, -2, 2 are left
        Kit.beast(x, 0, 0, 4, 4, 4, 3, 5, 3);
        Kit.same("never()", x.never(0, 0), 0);
        Kit.hands(x, EDGE, 1);
        Kit.beast(x, 0, 0, 4, 0, 5, 0, 5, 1, 6, 0);
        Kit.same("never()", x.never(0, 0), 0);
        x.strain(1);
        Kit.same("never() of none HELD", x.never(0, 0), 4);
    }

    static void promise28NeverIsByTheLamp() {
        HandBeasts x = Kit.withHands(ONE, 1);
        Kit.beast(x, 0, 0, 8, 8, 8, 7, 9, 7, 5, 5);
        x.lamp(1, 3, 3);
        Kit.same("never()", x.never(0, 0), 1);
        Kit.holdsShadow(x, "never()", 0, 5, 5);
    }

    static void promise28NeverIsToARowAnew() {
        HandBeasts x = Kit.withHands(ONE, 1);
        Kit.beast(x, 0, 0, 0, 0);
        for (int r = 0; r < 6; r++) {
            x.row(r, r < 5 ? 40 : 0);
            Kit.same("never()", x.never(0, r), 1);
            Kit.holdsShadow(x, "never()", r, 0, 0);
        }
    }

    // ---- 29 sets()

    static void promise29SetsOfOne() {
        HandBeasts x = allHeld();
        Kit.shadow(x, 0, both(LAST_0, LAST_1));
        Kit.both(x, "sets()", x.sets(0), 1, 63);
    }

    static void promise29SetsOfNone() {
        HandBeasts x = allHeld();
        Kit.shadow(x, 0, LAST_0);
        Kit.both(x, "sets()", x.sets(0), 0, 63);
    }

    static void promise29SetsOfSixteen() {
        // by this LAMP what FINGERS 4 and 5 do is lost
        HandBeasts x = allHeld();
        Kit.pose(x, NONE, 1, 0, 0, 0, 0, 0, 0);
        x.lamp(1, 3, 3);
        x.thrown(0, 0);
        Kit.both(x, "sets()", x.sets(0), 16, 15);
        x.strain(1);
        Kit.both(x, "sets() of STRAIN 1", x.sets(0), 5, 15);
        x.strain(0);
        Kit.both(x, "sets() of STRAIN 0", x.sets(0), 1, 63);
    }

    static void promise29SetsOfNoJoints() {
        HandBeasts x = new HandBeasts();
        Kit.shadow(x, 0);
        Kit.both(x, "sets() of one", x.sets(0), 1, 0);
        Kit.shadow(x, 0, 0, 0);
        Kit.both(x, "sets() of none", x.sets(0), 0, 0);
    }

    static void promise29SetsOfJustThat() {
        HandBeasts x = Kit.withHands(ONE, 1);
        Kit.shadow(x, 0, 5, 5, 5, 4, 5, 3);
        Kit.both(x, "just that", x.sets(0), 1, 1);
        Kit.shadow(x, 0, 5, 5, 5, 4);
        Kit.both(x, "a CELL less", x.sets(0), 0, 1);
        Kit.shadow(x, 0, 5, 5, 5, 4, 5, 3, 0, 0);
        Kit.both(x, "a CELL more", x.sets(0), 0, 1);
    }

    static void promise29SetsOfNothingThrown() {
        HandBeasts x = Kit.withHands("h71f211", 1);
        Kit.shadow(x, 0);
        Kit.both(x, "all are BARRED", x.sets(0), 0, 1);
        Kit.hands(x, "h69f211", 1);
        x.lamp(1, 3, 0);
        Kit.both(x, "all throw nothing", x.sets(0), 3, 0);
        x.strain(0);
        Kit.both(x, "the only one HELD", x.sets(0), 1, 1);
    }

    static void promise29SetsOfEachRow() {
        HandBeasts x = Kit.withHands(ONE, 1);
        for (int r = 0; r < 6; r++) {
            Kit.shadow(x, r, 5, 5, 5, 4, 6, 4);
            Kit.both(x, "sets()", x.sets(r), 1, 1);
        }
    }

    static void promise29AlikeInAllOfThem() {
        // the second of three TURNS is alike to the third, not to the first
        HandBeasts x = Kit.withHands("h68f020f211", 2);
        x.lamp(1, 3, 0);
        Kit.shadow(x, 0, 11, 5, 11, 4, 10, 3);
        Kit.both(x, "sets()", x.sets(0), 3, 1);
        Kit.hands(x, "h68f211f020", 2);
        Kit.both(x, "sets()", x.sets(0), 3, 2);
    }

    // ---- 32 where()

    private static void where(int c, int z, int dx, int dy) {
        HandBeasts x = posed("h" + c);
        x.lamp(z, dx, dy);
        x.thrown(0, 0);
        x.lamp(1, 0, 0);
        x.row(1, 10);
        x.beast(0, 0, 1, 0);
        Kit.both(x, "where()", x.where(0, 0), 0, 100 * z + 10 * (dx + 3) + dy + 3);
        Kit.same("the LAMP stays", x.lamp(1, 0, 0), 133);
    }

    static void promise32WhereIsAnyLamp() {
        for (int dx = -3; dx <= 3; dx++) {
            for (int dy = -3; dy <= 3; dy++) {
                where(65, 1, dx, dy);
                where(26, 2, dx, dy);
            }
        }
    }

    static void promise32WhereIsTheFirstByZ() {
        // 0, 0 is thrown to 0, 0 alone by 1, 0, 0 and by 2, -1, -1
        HandBeasts x = posed("h0");
        Kit.beast(x, 0, 0, 0, 0);
        Kit.both(x, "where()", x.where(0, 0), 0, 133);
    }

    static void promise32WhereIsTheFirstByDxThenDy() {
        HandBeasts x = posed("h0");
        Kit.beast(x, 0, 0);
        Kit.both(x, "all is lost by dx -3, dy -3", x.where(0, 0), 0, 100);
        HandBeasts y = posed("h36");
        Kit.beast(y, 0, 0);
        Kit.both(y, "0, 3 is lost by dx -3, dy -3", y.where(0, 0), 0, 100);
        HandBeasts z = posed("h71");
        Kit.beast(z, 0, 0);
        Kit.both(z, "11, 5 is lost by dx 1, dy -3", z.where(0, 0), 0, 140);
        HandBeasts u = posed("h113");
        Kit.beast(u, 0, 0);
        Kit.both(u, "5, 9 is lost by dx -3, dy 1", u.where(0, 0), 0, 104);
    }

    static void promise32WhereOfTheLeastThatIsNot0() {
        HandBeasts x = posed("h65");
        Kit.beast(x, 0, 0, 5, 5, 0, 0);
        Kit.both(x, "where()", x.where(0, 0), 1, 133);
    }

    static void promise32WhereOfNoHands() {
        HandBeasts x = posed("");
        Kit.row(x, 0, ALL_LINES);
        x.beast(0, 0, 0, 0);
        Kit.both(x, "where()", x.where(0, 0), 120, 100);
    }

    static void promise32WhereIsNeverSpent() {
        HandBeasts x = Scenes.spent();
        if (x.where(0, 0) < 0) throw new AssertionError("where() is refused");
    }

    // ---- 33 picture()

    private static void picture(int c, int z, int dx, int dy) {
        HandBeasts x = posed("h" + c);
        x.lamp(z, dx, dy);
        x.thrown(0, 0);
        x.lamp(2, 1, -1);
        Kit.both(x, "picture()", x.picture(0), 100 * z + 10 * (dx + 3) + dy + 3, 1);
        Kit.same("the LAMP stays", x.lamp(1, 0, 0), 242);
    }

    static void promise33PictureByAnyLamp() {
        for (int dx = -3; dx <= 3; dx++) {
            for (int dy = -3; dy <= 3; dy++) {
                picture(65, 1, dx, dy);
                picture(26, 2, dx, dy);
            }
        }
    }

    static void promise33PictureByTheFirstLamp() {
        HandBeasts x = Kit.withHands("h0", 0);
        Kit.shadow(x, 0, 0, 0);
        Kit.both(x, "z 1 ahead of z 2", x.picture(0), 133, 1);
        Kit.shadow(x, 0);
        Kit.both(x, "nothing", x.picture(0), 100, 1);
    }

    static void promise33PictureByHowMany() {
        HandBeasts x = Kit.withHands("h68f211", 1);
        Kit.shadow(x, 0, 11, 5);
        Kit.both(x, "three", x.picture(0), 163, 3);
        x.strain(0);
        Kit.both(x, "one of STRAIN 0", x.picture(0), 163, 1);
    }

    static void promise33PictureByNone() {
        HandBeasts x = Kit.withHands("h65", 0);
        Kit.shadow(x, 0, 5, 5, 6, 6);
        Kit.refused(x, "picture()", () -> x.picture(0), NONE);
        Kit.shadow(x, 0, 9, 5);
        Kit.refused(x, "picture() by dx 4", () -> x.picture(0), NONE);
        Kit.shadow(x, 0, 1, 5);
        Kit.refused(x, "picture() by dx -4", () -> x.picture(0), NONE);
        Kit.shadow(x, 0, 5, 9);
        Kit.refused(x, "picture() by dy 4", () -> x.picture(0), NONE);
        Kit.shadow(x, 0, 8, 8);
        Kit.both(x, "picture() by dx 3, dy 3", x.picture(0), 166, 1);
    }

    static void promise33PictureOfNoHands() {
        HandBeasts x = new HandBeasts();
        Kit.shadow(x, 0);
        Kit.both(x, "picture() of nothing", x.picture(0), 100, 1);
        Kit.shadow(x, 0, 0, 0);
        Kit.refused(x, "picture() of a CELL", () -> x.picture(0), NONE);
    }

    static void promise33PictureOfEachRow() {
        HandBeasts x = Kit.withHands("h65", 0);
        for (int r = 0; r < 6; r++) {
            Kit.shadow(x, r, 8, 8);
            Kit.both(x, "picture()", x.picture(r), 166, 1);
        }
    }

    // ---- 35 two()

    static void promise35TwoAsTheyAre() {
        HandBeasts x = allHeld();
        Kit.both(x, "two()", x.two(1, 2), 0, 0);
    }

    static void promise35TwoTheOtherWayAbout() {
        HandBeasts x = allHeld();
        Kit.both(x, "two()", x.two(2, 1), 1, 0);
    }

    static void promise35TwoAlikeIs0() {
        HandBeasts x = allHeld();
        Kit.both(x, "two()", x.two(1, 1), 0, 14);
        Kit.both(x, "two()", x.two(3, 3), 0, 2 * (120 - 7));
    }

    static void promise35TwoByOneLess() {
        HandBeasts x = Kit.withHands("h65h0", 0);
        Kit.beast(x, 0, 0, 5, 5, 1, 1, 2, 2);
        Kit.beast(x, 1, 0, 0, 0);
        Kit.both(x, "two()", x.two(0, 1), 0, 2);
        Kit.both(x, "two()", x.two(1, 0), 1, 2);
        beast(x, 0, cells(5, 5), cells(0, 0));
        beast(x, 1, cells(3, 3), cells(5, 5));
        // 0 by 0, 2 for HAND 1; or 1 for HAND 0, 1 for HAND 1
        Kit.both(x, "two() of alike sums", x.two(0, 1), 0, 2);
        Kit.both(x, "two() of alike sums", x.two(1, 0), 0, 2);
    }

    static void promise35TwoWithoutCellsOfTheOther() {
        HandBeasts x = Kit.withHands("h65f0h65f0", 0);
        Kit.beast(x, 0, 0, 5, 5, 5, 4);
        Kit.both(x, "many()", x.many(), 0, 0);
        Kit.both(x, "two()", x.two(0, 0), 0, 0);
    }

    static void promise35TwoByStrainOfEachAlone() {
        HandBeasts x = allHeld();
        x.strain(3);
        Kit.both(x, "two() of STRAIN 3", x.two(1, 2), 0, 0);
        x.strain(2);
        Kit.both(x, "two() of STRAIN 2", x.two(1, 2), 0, 4);
        x.strain(0);
        Kit.both(x, "two() of STRAIN 0", x.two(1, 2), 0, 12);
    }

    static void promise35TwoNoneOfEither() {
        HandBeasts x = Kit.withHands("h5f0h65", 0);
        Kit.beast(x, 0, 0, 5, 5);
        Kit.refused(x, "HAND 0 is BARRED", () -> x.two(0, 0), NONE);
        Kit.hands(x, "h65h5f0", 0);
        Kit.refused(x, "HAND 1 is BARRED", () -> x.two(0, 0), NONE);
        Kit.hands(x, "h65h5f4", 0);
        Kit.both(x, "neither is", x.two(0, 0), 0, 3);
    }

    static void promise35TwoIsByTheLamp() {
        HandBeasts x = Kit.withHands("h65h0", 0);
        Kit.beast(x, 0, 0, 6, 6);
        Kit.beast(x, 1, 0, 1, 1);
        Kit.both(x, "two()", x.two(0, 1), 0, 4);
        x.lamp(1, 1, 1);
        Kit.both(x, "two()", x.two(0, 1), 0, 0);
    }

    static void promise35TwoLeavesAllTurns() {
        HandBeasts x = allHeld();
        x.two(1, 2);
        Kit.both(x, "many()", x.many(), 4096, 0);
        Kit.same("nearest()", x.nearest(0, 0), 0);
        Kit.same("never()", x.never(3, 0), 88);
    }

    // ---- 36 stiff()

    static void promise36StiffIsNoMore() {
        HandBeasts x = Kit.withHands(ONE, 1);
        Kit.beast(x, 0, 0, 5, 5, 5, 4, 5, 3);
        Kit.both(x, "stiff()", x.stiff(0, 0), 0, 0);
        Kit.beast(x, 1, 0, 0, 0);
        Kit.both(x, "stiff() of what all miss", x.stiff(0, 1), 0, 4);
    }

    static void promise36StiffIsMore() {
        HandBeasts x = Kit.withHands(ONE, 1);
        Kit.beast(x, 0, 0, 5, 5, 5, 4, 4, 4);
        Kit.both(x, "stiff()", x.stiff(0, 0), 2, 2);
        Kit.beast(x, 1, 0, 5, 5, 5, 4, 4, 4, 0, 0);
        Kit.both(x, "stiff()", x.stiff(0, 1), 2, 3);
    }

    static void promise36StiffOfEachJoint() {
        HandBeasts x = allHeld();
        for (int j = 0; j < 6; j++) Kit.both(x, "stiff(" + j + ")", x.stiff(j, 0), 2, 2);
    }

    static void promise36StiffOfAJointThatCannotTurn() {
        HandBeasts x = Kit.withHands("h65f000", 1);
        Kit.beast(x, 0, 0, 0, 0);
        Kit.both(x, "stiff()", x.stiff(0, 0), 0, 4);
    }

    static void promise36StiffOfNoneHeldAt0() {
        HandBeasts x = Kit.withHands(EDGE, 1);
        Kit.beast(x, 0, 0, 0, 0);
        Kit.both(x, "two are HELD", x.many(), 2, 0);
        Kit.refused(x, "none is HELD so", () -> x.stiff(0, 0), NONE);
    }

    static void promise36StiffIsByStrain() {
        HandBeasts x = allHeld();
        x.strain(1);
        // with no JOINT stiff one FINGER is as wished for; also with one stiff that is not it
        Kit.both(x, "stiff()", x.stiff(0, 0), 0, 10);
        x.strain(0);
        Kit.both(x, "stiff()", x.stiff(0, 0), 0, 12);
        x.strain(6);
        Kit.both(x, "stiff()", x.stiff(0, 0), 2, 2);
    }
}

/** Section 2 and promises 16 to 23: TURNS, the LAMP, POSES and their KINDS, at each bound. */
final class EdgesOfPosesTest {
    private static final int NONE = HandBeasts.NONE;
    private static final int HELD = 1, STRAINED = 2, BARRED = 3, MOVING = 4, HELPED = 5;
    /** By SIDE: where the next CELL is. */
    private static final int[] RIGHT = {0, 1, 1, 1, 0, -1, -1, -1}, DOWN = {-1, -1, 0, 1, 1, 1, 0, -1};
    /** The WRIST at 5, 5; a FINGER up of one JOINT (-2 .. 2), of two. */
    private static final String ONE = "h65f022", TWO = "h65f02222";

    private EdgesOfPosesTest() {
    }

    /** POSE 0 of these HANDS by these TURNS is of this KIND. */
    private static HandBeasts posed(String signs, int kind, int... turns) {
        HandBeasts x = Kit.withHands(signs, turns.length);
        Kit.same("pose()", Kit.pose(x, NONE, kind, turns), 0);
        return x;
    }

    private static void dark(String signs, int[] turns, int... xy) {
        HandBeasts x = posed(signs, HELD, turns);
        Kit.same("shape() of " + signs, x.shape(0, 0), xy.length / 2);
        Kit.holdsShadow(x, "shape() of " + signs, 0, xy);
    }

    private static int[] turns(int... turns) {
        return turns;
    }

    // ---- PIECES

    static void promise16FirstPieceIsOnItsSide() {
        for (int s = 0; s < 8; s++) dark("h65f" + s, turns(), 5, 5, 5 + RIGHT[s], 5 + DOWN[s]);
    }

    static void promise16NextPieceIsOnItsSideTurnedModulo8() {
        for (int s = 0; s < 8; s++) {
            for (int t = -2; t <= 2; t++) {
                int to = Math.floorMod(s + t, 8);
                int x = 5 + RIGHT[s];
                int y = 5 + DOWN[s];
                dark("h65f" + s + "22", turns(t), 5, 5, x, y, x + RIGHT[to], y + DOWN[to]);
            }
        }
    }

    static void promise16TurnsGoOnFromThePieceAhead() {
        dark("h65f6222222", turns(2, 2, 1), 5, 5, 4, 5, 4, 4, 5, 4, 6, 5);
        dark("h65f1222222", turns(-2, -2, -1), 5, 5, 6, 4, 5, 3, 4, 4, 4, 5);
        dark("h65f2222222", turns(1, 0, -1), 5, 5, 6, 5, 7, 6, 8, 7, 9, 7);
    }

    static void promise16FingerOfNoJointIsOfOnePiece() {
        dark("h65f2", turns(), 5, 5, 6, 5);
    }

    static void promise16FingerOfThreeJointsIsOfFourPieces() {
        dark("h65f2000000", turns(0, 0, 0), 5, 5, 6, 5, 7, 5, 8, 5, 9, 5);
    }

    static void promise16WristsAreDark() {
        dark("h65", turns(), 5, 5);
        dark("h65h0", turns(), 5, 5, 0, 0);
    }

    static void promise16EachFingerGoesFromItsOwnHand() {
        dark("h65f0h0f2f4", turns(), 5, 5, 5, 4, 0, 0, 1, 0, 0, 1);
    }

    static void promise16EachFingerHasItsOwnTurns() {
        dark("h65f022f4h8f411", turns(-2, 1), 5, 5, 5, 4, 4, 4, 5, 6, 8, 0, 8, 1, 7, 2);
    }

    // ---- BARRED: out of the map

    static void promise16BarredAbove() {
        posed("h17f0", HELD);
        posed("h5f0", BARRED);
        posed("h5f1", BARRED);
        posed("h5f7", BARRED);
    }

    static void promise16BarredBelow() {
        posed("h101f4", HELD);
        posed("h113f4", BARRED);
        posed("h113f3", BARRED);
        posed("h113f5", BARRED);
    }

    static void promise16BarredOnTheLeft() {
        posed("h61f6", HELD);
        posed("h60f6", BARRED);
        posed("h60f5", BARRED);
        posed("h60f7", BARRED);
    }

    static void promise16BarredOnTheRight() {
        posed("h70f2", HELD);
        posed("h71f2", BARRED);
        posed("h71f1", BARRED);
        posed("h71f3", BARRED);
    }

    static void promise16HeldInTheCorners() {
        posed("h0f2f3f4", HELD);
        posed("h11f4f5f6", HELD);
        posed("h108f0f1f2", HELD);
        posed("h119f0f6f7", HELD);
    }

    static void promise16BarredOutOfTheMapAndBack() {
        // 0, 5; out at -1, 5; out at -1, 4; back at 0, 4
        HandBeasts x = posed("h60f62222", BARRED, 2, 2);
        Kit.same("mark()", x.mark(0, 3), 2);
    }

    static void promise16BarredFarOut() {
        HandBeasts x = posed("h5f0000000", BARRED, 0, 0, 0);
        Kit.same("mark()", x.mark(0, 3), 4);
        Kit.same("shape()", x.shape(0, 0), 1);
    }

    // ---- BARRED: two in one CELL

    static void promise16BarredByWristsInOneCell() {
        posed("h65h65", BARRED);
        posed("h65h66", HELD);
        posed("h0h0", BARRED);
    }

    static void promise16BarredByItsOwnWrist() {
        posed("h65f0222222", BARRED, 2, 2, 2);
        posed("h65f0222222", BARRED, -2, -2, -2);
        posed("h65f0222222", HELD, 2, 2, 1);
    }

    static void promise16BarredByTheOtherWrist() {
        posed("h65f0h53", BARRED);
        posed("h53h65f0", BARRED);
        posed("h65f0h54", HELD);
    }

    static void promise16BarredByAnotherFingerOfTheHand() {
        posed("h65f0f0", BARRED);
        posed("h65f022f111", BARRED, 2, 0);
        posed("h65f022f1", HELD, -2);
        // 6, 4 of the FINGER on SIDE 1 is where the turn 2 of the other one would be
        posed("h65f022f1", BARRED, 2);
    }

    static void promise16BarredByAFingerOfTheOtherHand() {
        posed("h65f0h66f7", BARRED);
        posed("h65f0h66f0", HELD);
        posed("h65f0h67f6", HELD);
        posed("h65f2h67f6", BARRED);
    }

    // ---- STRAINED

    private static HandBeasts strained(String signs, int strain, int mover, int kind, int... turns) {
        HandBeasts x = Kit.withHands(signs, turns.length);
        x.strain(strain);
        Kit.pose(x, mover, kind, turns);
        return x;
    }

    static void promise16HeldByJustTheStrain() {
        strained(ONE, 2, NONE, HELD, 2);
        strained(ONE, 2, NONE, HELD, -2);
        strained(TWO, 3, NONE, HELD, 1, -2);
    }

    static void promise16StrainedByOneMore() {
        strained(ONE, 1, NONE, STRAINED, 2);
        strained(ONE, 1, NONE, STRAINED, -2);
        strained(TWO, 2, NONE, STRAINED, 1, -2);
    }

    static void promise16TurnsCountWithoutSigns() {
        strained(TWO, 3, NONE, STRAINED, -2, 2);
        strained(TWO, 4, NONE, HELD, -2, 2);
        strained(TWO, 3, NONE, STRAINED, -2, -2);
        strained(TWO, 4, NONE, HELD, -2, -2);
    }

    static void promise16HeldByStrain0() {
        strained(ONE, 0, NONE, HELD, 0);
        strained(ONE, 0, NONE, STRAINED, 1);
        strained(ONE, 0, NONE, STRAINED, -1);
        strained("h65", 0, NONE, HELD);
    }

    static void promise16StrainedByTheMostTurns() {
        // 5, 4; 6, 4; 6, 3; 7, 3 and 5, 6; 4, 6; 4, 7; 3, 7
        String signs = "h65f0222222f4222222";
        strained(signs, 12, NONE, HELD, 2, -2, 2, 2, -2, 2);
        strained(signs, 11, NONE, STRAINED, 2, -2, 2, 2, -2, 2);
        HandBeasts x = strained(signs, 0, NONE, STRAINED, 2, -2, 2, 2, -2, 2);
        Kit.same("mark()", x.mark(0, 2), 12);
    }

    static void promise16BarredIsMoreThanStrained() {
        strained("h17f022", 0, NONE, BARRED, 1);
        strained("h17f022", 0, NONE, STRAINED, 2);
    }

    // ---- MOVING

    static void promise16MovingToTheLastTurn() {
        strained(ONE, 99, 0, MOVING, 1);
        strained(ONE, 99, 0, MOVING, -2);
        strained("h65f001", 99, 0, MOVING, 0);
        strained("h65f010", 99, 0, MOVING, -1);
    }

    static void promise16MovingByEachJoint() {
        for (int j = 0; j < 6; j++) {
            HandBeasts x = strained("h65f0010101f4010101", 99, j, MOVING, 0, 0, 0, 0, 0, 0);
            Kit.tells(x, "about()", x.about(0, 2), j);
            Kit.same("mark()", x.mark(0, 4), j);
        }
    }

    static void promise16MovingIsStrainedIfItsTurnsAre() {
        strained(ONE, 0, 0, STRAINED, -1);
        strained(ONE, 1, 0, STRAINED, -2);
        strained(ONE, 2, 0, MOVING, -2);
    }

    static void promise16MovingIsStrainedIfThoseMovedAre() {
        strained(ONE, 0, 0, STRAINED, 0);
        strained(ONE, 1, 0, STRAINED, 1);
        strained(ONE, 2, 0, MOVING, 1);
        strained(ONE, 1, 0, MOVING, 0);
        strained(ONE, 1, 0, MOVING, -1);
    }

    static void promise16MovingIsBarredIfItsTurnsAre() {
        strained("h17f022", 99, 0, BARRED, 1);
        strained("h17f022", 99, NONE, HELD, 2);
    }

    static void promise16MovingIsBarredIfThoseMovedAre() {
        strained("h17f022", 99, 0, BARRED, -2);
        strained("h17f022", 99, NONE, HELD, -2);
    }

    static void promise16MovingIsBarredAheadOfStrained() {
        // BARRED as it is moved, STRAINED as it begins; and the other way about
        strained("h17f022", 1, 0, BARRED, -2);
        strained("h17f022", 1, 0, BARRED, 1);
    }

    static void promise16MovedTurnsAreToOneMore() {
        // HAND 1 is at 4, 3, where the turn -1 leads: a JOINT that turned one less would meet it from 0, not from -2
        strained(ONE + "h40", 99, 0, BARRED, -2);
        strained(ONE + "h40", 99, 0, MOVING, 0);
        strained(ONE + "h40", 99, NONE, BARRED, -1);
    }

    static void promise16MovingNotByTheSameTurnsAlone() {
        HandBeasts x = strained(ONE, 99, 0, MOVING, 0);
        Kit.pose(x, NONE, HELD, 0);
        Kit.tells(x, "about()", x.about(1, 2), NONE);
        Kit.tells(x, "turn() of a MOVING one, as it begins", x.turn(0, 0), 0);
    }

    // ---- pose()

    static void promise16PoseByEachRow() {
        HandBeasts x = Kit.withHands(ONE, 1);
        for (int r = 0; r < 6; r++) {
            Kit.row(x, r, r % 5 - 2);
            Kit.same("pose(" + r + ")", x.pose(r, NONE), r);
            Kit.tells(x, "turn()", x.turn(r, 0), r % 5 - 2);
        }
    }

    static void promise16PosesAre12AtMost() {
        HandBeasts x = Kit.withHands(ONE, 1);
        for (int p = 0; p < 12; p++) Kit.same("pose()", Kit.pose(x, NONE, HELD, p % 5 - 2), p);
        Kit.refused(x, "a thirteenth", () -> x.pose(5, NONE), HandBeasts.FULL);
        Kit.same("back(11)", x.back(11), 1);
        Kit.same("the twelfth anew", Kit.pose(x, 0, MOVING, 0), 11);
        Kit.refused(x, "a thirteenth", () -> x.pose(5, NONE), HandBeasts.FULL);
    }

    static void promise16PosesOfAllKindsCount() {
        HandBeasts x = Kit.withHands("h17f022", 1);
        for (int p = 0; p < 6; p++) Kit.pose(x, NONE, BARRED, 0);
        x.strain(0);
        for (int p = 6; p < 12; p++) Kit.pose(x, NONE, STRAINED, 2);
        Kit.refused(x, "a thirteenth", () -> x.pose(5, NONE), HandBeasts.FULL);
        Kit.same("count(3)", x.count(3), 12);
        Kit.same("count(4)", x.count(4), 0);
    }

    static void promise16TurnsAtTheirBounds() {
        String signs = "h65f01002";
        posed(signs, HELD, -1, 0);
        posed(signs, HELD, 0, 2);
        posed(signs, HELD, 0, 0);
        HandBeasts x = Kit.withHands(signs, 2);
        for (int[] no : new int[][] {{-2, 0}, {1, 0}, {0, -1}, {0, 3}}) {
            Kit.row(x, 0, no);
            Kit.finds(x, "pose()", () -> x.pose(0, NONE), Kit.UNLIKE);
        }
    }

    static void promise16PoseOfNoJoints() {
        HandBeasts x = new HandBeasts();
        x.row(0, 0);
        Kit.both(x, "pose()", x.pose(0, NONE), 0, HELD);
        Kit.hands(x, "h5f0", 0);
        Kit.both(x, "pose()", x.pose(0, NONE), 0, BARRED);
    }

    static void promise16PoseIsByStrainAsItWas() {
        HandBeasts x = strained(ONE, 1, NONE, STRAINED, 2);
        Kit.pose(x, NONE, HELD, 1);
        x.strain(99);
        Kit.tells(x, "about()", x.about(0, 0), STRAINED);
        x.strain(0);
        Kit.tells(x, "about()", x.about(1, 0), HELD);
        Kit.same("mark()", x.mark(0, 2), 1);
        Kit.same("count(4)", x.count(4), 1);
    }

    static void promise16PoseIsOfTheRowAsItWas() {
        HandBeasts x = Kit.withHands(TWO, 2);
        Kit.row(x, 0, 1, -2);
        x.pose(0, NONE);
        x.lay(0, 0, 2);
        x.tear(0);
        Kit.tells(x, "turn(0, 0)", x.turn(0, 0), 1);
        Kit.tells(x, "turn(0, 1)", x.turn(0, 1), -2);
    }

    // ---- help()

    private static HandBeasts helped(int... card) {
        HandBeasts x = posed(ONE, HELD, 0);
        Kit.row(x, 0, card);
        int cells = 0;
        for (int line : card) cells += Integer.bitCount(line);
        Kit.same("help()", x.help(0, 0), cells);
        Kit.same("mark()", x.mark(0, 5), cells);
        Kit.tells(x, "about()", x.about(0, 0), HELPED);
        return x;
    }

    static void promise17CardOfNoCells() {
        HandBeasts x = helped(new int[10]);
        Kit.same("thrown()", x.thrown(0, 1), 3);
    }

    static void promise17CardOfAllCells() {
        HandBeasts x = helped(4095, 4095, 4095, 4095, 4095, 4095, 4095, 4095, 4095, 4095);
        Kit.same("thrown()", x.thrown(0, 1), 120);
    }

    static void promise17CardOfEachCell() {
        for (int c = 0; c < 120; c++) {
            int[] card = Kit.lines(c % 12, c / 12);
            HandBeasts x = helped(card);
            x.lamp(1, 3, 3);
            x.thrown(0, 1);
            Kit.holdsShadow(x, "thrown()", 1, 8, 8, 8, 7, 8, 6, c % 12, c / 12);
        }
    }

    static void promise17HelpByEachRow() {
        for (int r = 0; r < 6; r++) {
            HandBeasts x = posed(ONE, HELD, 0);
            Kit.row(x, r, 1, 3, 7, 15, 0, 0, 0, 0, 0, 4095);
            Kit.same("help()", x.help(0, r), 22);
        }
    }

    static void promise17HelpedDoesNotMoveAnyMore() {
        HandBeasts x = strained(ONE, 99, 0, MOVING, 0);
        Kit.shadow(x, 0, 1, 1);
        Kit.same("help()", x.help(0, 0), 1);
        Kit.tells(x, "KIND", x.about(0, 0), HELPED);
        Kit.tells(x, "JOINT", x.about(0, 2), NONE);
        Kit.finds(x, "mark()", () -> x.mark(0, 4), Kit.UNLIKE);
    }

    static void promise17HelpedAnew() {
        HandBeasts x = helped(Kit.lines(0, 0, 1, 0, 2, 0));
        Kit.shadow(x, 1, 11, 9);
        Kit.same("help()", x.help(0, 1), 1);
        Kit.same("mark()", x.mark(0, 5), 1);
        x.thrown(0, 0);
        Kit.holdsShadow(x, "thrown()", 0, 5, 5, 5, 4, 5, 3, 11, 9);
    }

    static void promise17CardIsOfTheRowAsItWas() {
        HandBeasts x = helped(Kit.lines(0, 0));
        x.lay(0, 0, 4095);
        x.tear(0);
        Kit.same("mark()", x.mark(0, 5), 1);
    }

    static void promise17CardIsOfOnePose() {
        HandBeasts x = posed(ONE, HELD, 0);
        Kit.pose(x, NONE, HELD, 0);
        Kit.shadow(x, 0, 0, 0);
        x.help(1, 0);
        Kit.tells(x, "about()", x.about(0, 0), HELD);
        Kit.same("thrown()", x.thrown(0, 1), 3);
        Kit.same("thrown()", x.thrown(1, 1), 4);
    }

    static void promise17CardIsGoneWithItsPose() {
        HandBeasts x = helped(Kit.lines(0, 0));
        x.back(0);
        Kit.pose(x, NONE, HELD, 0);
        Kit.same("thrown()", x.thrown(0, 1), 3);
        Kit.finds(x, "mark()", () -> x.mark(0, 5), Kit.UNLIKE);
    }

    // ---- back()

    static void promise18BackToEachNumber() {
        for (int n = 0; n <= 12; n++) {
            HandBeasts x = Scenes.full();
            Kit.same("back(" + n + ")", x.back(n), 12 - n);
            Kit.same("count(3)", x.count(3), n);
            Kit.same("count(4)", x.count(4), n);
            // of 24 CALLS, two are of each POSE
            Kit.same("count(7)", x.count(7), 2 * n);
        }
    }

    static void promise18BackOfNoPoses() {
        HandBeasts x = new HandBeasts();
        Kit.same("back(0)", x.back(0), 0);
    }

    static void promise18PosesThatStayAreAsTheyWere() {
        HandBeasts x = Scenes.some();
        x.back(3);
        Kit.tells(x, "KIND of 0", x.about(0, 0), HELD);
        Kit.tells(x, "KIND of 1", x.about(1, 0), MOVING);
        Kit.tells(x, "KIND of 2", x.about(2, 0), HELPED);
        Kit.same("CARD of 2", x.mark(2, 5), 3);
        Kit.same("CALLS", x.count(7), 3);
        Kit.same("the next one", Kit.pose(x, NONE, HELD, 0, 0), 3);
    }

    static void promise18CallsOfThoseThatGoGo() {
        HandBeasts x = Scenes.some();
        Kit.same("back(1)", x.back(1), 4);
        Kit.same("count(7)", x.count(7), 2);
        Kit.same("odds(0, 3)", x.odds(0, 3), 2);
        Kit.both(x, "agrees(0)", x.agrees(0), 1, 1);
    }

    // ---- about(), turn()

    static void promise19TurnsWithoutSignsTogether() {
        HandBeasts x = posed("h65f0222222f4222222", HELD, 2, -2, 2, 2, -2, 0);
        Kit.tells(x, "about()", x.about(0, 1), 10);
        Kit.pose(x, NONE, HELD, 0, 0, 0, 0, 0, 0);
        Kit.tells(x, "about()", x.about(1, 1), 0);
        Kit.pose(x, 5, BARRED, 2, 2, 2, 2, 2, 1);
        Kit.tells(x, "about() of a BARRED one, as it begins", x.about(2, 1), 11);
    }

    static void promise19JointOfEachKind() {
        HandBeasts x = Scenes.some();
        int[] kinds = {HELD, MOVING, HELPED, STRAINED, BARRED};
        int[] joints = {NONE, 0, NONE, NONE, NONE};
        for (int p = 0; p < 5; p++) {
            Kit.tells(x, "about(" + p + ", 0)", x.about(p, 0), kinds[p]);
            Kit.tells(x, "about(" + p + ", 2)", x.about(p, 2), joints[p]);
        }
    }

    static void promise19JointOfAStrainedOneThatWasToldWithOne() {
        HandBeasts x = strained(ONE, 1, 0, STRAINED, 1);
        Kit.tells(x, "about()", x.about(0, 2), 0);
    }

    static void promise19JointOfABarredOneThatWasToldWithOne() {
        HandBeasts x = strained("h17f022", 99, 0, BARRED, -2);
        Kit.tells(x, "about()", x.about(0, 2), 0);
    }

    static void promise20TurnsOfTheFirstAndTheLastJoint() {
        HandBeasts x = posed("h65f0222222f4222222", HELD, -2, 1, 0, 0, -1, 2);
        int[] due = {-2, 1, 0, 0, -1, 2};
        for (int j = 0; j < 6; j++) Kit.tells(x, "turn(0, " + j + ")", x.turn(0, j), due[j]);
    }

    static void promise20TurnsOfTheLastPose() {
        HandBeasts x = Scenes.full();
        Kit.tells(x, "turn(11, 0)", x.turn(11, 0), -1);
        Kit.tells(x, "turn(11, 1)", x.turn(11, 1), 1);
    }

    // ---- mark()

    static void promise21MarkOfAHeldOneOfNoCells() {
        HandBeasts x = posed("", HELD);
        Kit.same("mark()", x.mark(0, 1), 0);
    }

    static void promise21MarkOfAHeldOneOfTheMostCells() {
        // two WRISTS, six FINGERS of one PIECE, six JOINTS
        HandBeasts x = posed("h39f0f2f4h80f0000000f6000000f4", HELD, 0, 0, 0, 0, 0, 0);
        Kit.same("mark()", x.mark(0, 1), 14);
    }

    static void promise21MarkOfAHeldOneIsWithoutItsCard() {
        HandBeasts x = helped(4095, 4095, 0, 0, 0, 0, 0, 0, 0, 0);
        Kit.same("mark()", x.mark(0, 1), 3);
    }

    static void promise21MarkOfAMovingOneAsAHeldOne() {
        HandBeasts x = strained(ONE, 99, 0, MOVING, 0);
        Kit.same("mark()", x.mark(0, 1), 3);
        Kit.same("mark()", x.mark(0, 4), 0);
    }

    private static void above(int strain, int mover, int above, int... turns) {
        HandBeasts x = strained(TWO, strain, mover, STRAINED, turns);
        x.strain(50);
        Kit.same("mark()", x.mark(0, 2), above);
    }

    static void promise21MarkOfAStrainedOneByOne() {
        above(3, NONE, 1, 2, -2);
        above(2, NONE, 1, 1, 2);
    }

    static void promise21MarkOfAStrainedOneByTheMost() {
        above(0, NONE, 4, 2, 2);
        above(0, NONE, 4, -2, -2);
    }

    static void promise21MarkOfAStrainedOneByItsTurnsIfMore() {
        above(1, 0, 2, -2, 1);
        above(2, 0, 2, -2, -2);
        above(3, 1, 1, 2, -2);
    }

    static void promise21MarkOfAStrainedOneByThoseMovedIfMore() {
        above(1, 0, 1, 1, 0);
        above(1, 0, 2, 0, 2);
        above(0, 1, 1, 0, 0);
    }

    private static void wrong(String signs, int wrong, int... turns) {
        HandBeasts x = posed(signs, BARRED, turns);
        Kit.same("mark() of " + signs, x.mark(0, 3), wrong);
    }

    static void promise21MarkOfABarredOneByOneThatIsOut() {
        wrong("h5f0", 1);
        wrong("h0f2f0", 1);
    }

    static void promise21MarkOfABarredOneByEachThatIsOut() {
        wrong("h0f0f1f7f6f5", 5);
        wrong("h5f0000000", 4, 0, 0, 0);
    }

    static void promise21MarkOfABarredOneByTwoOutAtOnePlace() {
        wrong("h5f0f0", 2);
        wrong("h5f1h7f7", 2);
    }

    static void promise21MarkOfABarredOneByTheSecondWrist() {
        wrong("h65h65", 1);
        wrong("h65h65f2", 1);
    }

    static void promise21MarkOfABarredOneByEachThatCameBehind() {
        wrong("h65f0f0", 1);
        wrong("h65f0f0f0", 2);
        wrong("h65f0f0f0f0f0f0", 5);
        wrong("h65f0h65f0", 2);
    }

    static void promise21MarkOfABarredOneWristsFirst() {
        // the FINGER of HAND 0 is in the CELL of HAND 1's WRIST, which came ahead of it
        wrong("h65f0h53", 1);
        wrong("h65f0f0h53", 2);
        wrong("h65f2h66f6", 2);
    }

    static void promise21MarkOfABarredOneTheMoreOfBoth() {
        // 5, 0 and three more: by turns -2 and 2 they go along the upper edge, else out
        HandBeasts x = Kit.withHands("h17f0220000", 3);
        Kit.pose(x, 0, BARRED, -2, 0, 0);
        Kit.same("mark() by those moved", x.mark(0, 3), 3);
        Kit.pose(x, 0, BARRED, 1, 0, 0);
        Kit.same("mark() by its TURNS", x.mark(1, 3), 3);
        Kit.pose(x, NONE, BARRED, 1, 0, 0);
        Kit.same("mark() without moving", x.mark(2, 3), 3);
    }

    // ---- shape(), thrown(): the LAMP

    static void promise22ShapeToEachRow() {
        for (int r = 0; r < 6; r++) {
            HandBeasts x = posed(ONE, HELD, 0);
            x.row(r, 40);
            Kit.same("shape()", x.shape(0, r), 3);
            Kit.holdsShadow(x, "shape()", r, 5, 5, 5, 4, 5, 3);
            Kit.same("thrown()", x.thrown(0, r), 3);
            Kit.holdsShadow(x, "thrown()", r, 5, 5, 5, 4, 5, 3);
        }
    }

    static void promise22ShapeToAMissingRow() {
        HandBeasts x = posed(ONE, HELD, 0);
        x.tear(5);
        Kit.same("shape()", x.shape(0, 0), 3);
        Kit.same("thrown()", x.thrown(0, 1), 3);
        Kit.same("count(8)", x.count(8), 2);
    }

    static void promise22ShapeIsByNoLamp() {
        HandBeasts x = posed(ONE, HELD, 0);
        x.lamp(2, 3, -3);
        x.shape(0, 0);
        Kit.holdsShadow(x, "shape()", 0, 5, 5, 5, 4, 5, 3);
    }

    static void promise22ShapeHasNoCard() {
        HandBeasts x = helped(Kit.lines(0, 0));
        Kit.same("shape()", x.shape(0, 0), 3);
    }

    static void promise22ShapeOfWhatIsOut() {
        HandBeasts x = posed("h60f62222", BARRED, 2, 2);
        Kit.same("shape()", x.shape(0, 0), 2);
        Kit.holdsShadow(x, "shape()", 0, 0, 5, 0, 4);
    }

    static void promise22ShapeOfTwoInOneCell() {
        HandBeasts x = posed("h65f0f0h65", BARRED);
        Kit.same("shape()", x.shape(0, 0), 2);
    }

    static void promise22ShapeOfAllEdges() {
        dark("h0h119f0", turns(), 0, 0, 11, 9, 11, 8);
        dark("h11h108f0", turns(), 11, 0, 0, 9, 0, 8);
    }

    /** What CELL c throws by this LAMP. */
    private static void throwing(int c, int z, int dx, int dy, int... xy) {
        HandBeasts x = posed("h" + c, HELD);
        x.lamp(z, dx, dy);
        Kit.same("thrown()", x.thrown(0, 0), xy.length / 2);
        Kit.holdsShadow(x, "CELL " + c + " by LAMP " + z + ", " + dx + ", " + dy, 0, xy);
    }

    static void promise23SmallLampAllOverTheSheet() {
        for (int c = 0; c < 120; c++) {
            for (int dx = -3; dx <= 3; dx += 3) {
                int sx = c % 12 + dx;
                int sy = c / 12 - dx;
                if (sx >= 0 && sx < 12 && sy >= 0 && sy < 10) throwing(c, 1, dx, -dx, sx, sy);
                else throwing(c, 1, dx, -dx);
            }
        }
    }

    static void promise23SmallLampByEachDxAndDy() {
        for (int d = -3; d <= 3; d++) {
            throwing(65, 1, d, 0, 5 + d, 5);
            throwing(65, 1, 0, d, 5, 5 + d);
        }
    }

    static void promise23LargeLampByEachDxAndDy() {
        // CELL 3, 3: from 6, 6 on
        for (int d = -3; d <= 3; d++) {
            throwing(39, 2, d, 0, 6 + d, 6, 7 + d, 6, 6 + d, 7, 7 + d, 7);
            throwing(39, 2, 0, Math.min(d, 2), 6, 6 + Math.min(d, 2), 7, 6 + Math.min(d, 2), 6, 7 + Math.min(d, 2), 7, 7 + Math.min(d, 2));
        }
    }

    static void promise23LostOnTheLeft() {
        throwing(60, 1, -1, 0);
        throwing(62, 1, -3, 0);
        throwing(63, 1, -3, 0, 0, 5);
        throwing(36, 2, -1, 0, 0, 6, 0, 7);
        throwing(36, 2, -2, 0);
        throwing(37, 2, -3, 0, 0, 6, 0, 7);
        throwing(37, 2, -2, 0, 0, 6, 1, 6, 0, 7, 1, 7);
    }

    static void promise23LostOnTheRight() {
        throwing(71, 1, 1, 0);
        throwing(69, 1, 3, 0);
        throwing(68, 1, 3, 0, 11, 5);
        throwing(41, 2, 0, 0, 10, 6, 11, 6, 10, 7, 11, 7);
        throwing(41, 2, 1, 0, 11, 6, 11, 7);
        throwing(41, 2, 2, 0);
        throwing(42, 2, 0, 0);
        throwing(42, 2, -1, 0, 11, 6, 11, 7);
        throwing(47, 2, -3, 0);
    }

    static void promise23LostAbove() {
        throwing(5, 1, 0, -1);
        throwing(29, 1, 0, -3);
        throwing(41, 1, 0, -3, 5, 0);
        throwing(3, 2, 0, -1, 6, 0, 7, 0);
        throwing(3, 2, 0, -2);
        throwing(15, 2, 0, -3, 6, 0, 7, 0);
        throwing(15, 2, 0, -2, 6, 0, 7, 0, 6, 1, 7, 1);
    }

    static void promise23LostBelow() {
        throwing(113, 1, 0, 1);
        throwing(89, 1, 0, 3);
        throwing(77, 1, 0, 3, 5, 9);
        throwing(51, 2, 0, 0, 6, 8, 7, 8, 6, 9, 7, 9);
        throwing(51, 2, 0, 1, 6, 9, 7, 9);
        throwing(51, 2, 0, 2);
        throwing(63, 2, 0, 0);
        throwing(63, 2, 0, -1, 6, 9, 7, 9);
        throwing(111, 2, 0, -3);
    }

    static void promise23LargeLampInTheCorners() {
        throwing(0, 2, 0, 0, 0, 0, 1, 0, 0, 1, 1, 1);
        throwing(0, 2, -1, -1, 0, 0);
        throwing(53, 2, 0, 0, 10, 8, 11, 8, 10, 9, 11, 9);
        throwing(53, 2, 1, 1, 11, 9);
    }

    static void promise23LargeCellsSideBySide() {
        HandBeasts x = posed("h0f2h24f1", HELD);
        x.lamp(2, 0, 0);
        // of 0, 0 and 1, 0, of 1, 1 and of 0, 2
        Kit.same("thrown()", x.thrown(0, 0), 16);
        Kit.holds(x, "thrown()", 0, 15, 15, 12, 12, 3, 3, 0, 0, 0, 0);
    }

    static void promise23ThrownWithItsCardThatIsThereAlready() {
        HandBeasts x = helped(Kit.lines(5, 5, 5, 4, 0, 0));
        Kit.same("thrown()", x.thrown(0, 0), 4);
        Kit.holdsShadow(x, "thrown()", 0, 5, 5, 5, 4, 5, 3, 0, 0);
    }

    static void promise23ThrownOfAMovingOneAsItBegins() {
        HandBeasts x = strained(ONE, 99, 0, MOVING, -2);
        Kit.same("thrown()", x.thrown(0, 0), 3);
        Kit.holdsShadow(x, "thrown()", 0, 5, 5, 5, 4, 4, 4);
    }

    static void promise23ThrownOfABarredOne() {
        HandBeasts x = posed("h60f62222", BARRED, 2, 2);
        x.lamp(1, 3, 0);
        Kit.same("thrown()", x.thrown(0, 0), 2);
        // what is out of the map is not dark, though it would be on the SHEET
        Kit.holdsShadow(x, "thrown()", 0, 3, 5, 3, 4);
    }

    static void promise23ThrownOfNothing() {
        HandBeasts x = posed("", HELD);
        Kit.row(x, 0, 1, 2, 3);
        Kit.same("thrown()", x.thrown(0, 0), 0);
        Kit.holdsShadow(x, "thrown()", 0);
    }
}

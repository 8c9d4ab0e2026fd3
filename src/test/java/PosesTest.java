/** Promises 16 to 23: POSES, their KINDS, what is dark in them and what they throw. */
final class PosesTest {
    /** The WRIST at 5, 5; the FINGER goes up: 5, 4, then by JOINT 0 (-1 .. 1), then by JOINT 1 (-2 .. 2). */
    private static final String ONE = "h65f01122";
    /** The WRIST at 5, 1; the FINGER goes up: 5, 0, then out of the map, but for its turns -2 (4, 0) and 2 (6, 0). */
    private static final String EDGE = "h17f022";
    private static final int NONE = HandBeasts.NONE;

    private PosesTest() {
    }

    static void promise16HeldStrainedBarred() {
        HandBeasts x = Kit.withHands(ONE, 2);
        Kit.same("HELD", Kit.pose(x, NONE, 1, 0, 0), 0);
        Kit.same("HELD with turns", Kit.pose(x, NONE, 1, -1, 2), 1);
        x.strain(1);
        Kit.same("HELD just as strained as may be", Kit.pose(x, NONE, 1, -1, 0), 2);
        Kit.same("STRAINED", Kit.pose(x, NONE, 2, 1, -1), 3);
        x.strain(0);
        Kit.same("STRAINED by one", Kit.pose(x, NONE, 2, 0, -1), 4);
        Kit.same("count(3)", x.count(3), 5);
        Kit.same("count(4)", x.count(4), 3);
        HandBeasts y = Kit.withHands(EDGE, 1);
        Kit.same("HELD beside the edge", Kit.pose(y, NONE, 1, 2), 0);
        Kit.same("BARRED over the edge", Kit.pose(y, NONE, 3, 0), 1);
        y.strain(0);
        Kit.same("BARRED, also if strained", Kit.pose(y, NONE, 3, 1), 2);
        Kit.same("count(4)", y.count(4), 1);
        HandBeasts z = Kit.withHands("h65h65", 0);
        Kit.same("BARRED by WRISTS in one CELL", Kit.pose(z, NONE, 3), 0);
        HandBeasts u = Kit.withHands("h65f0222222", 3);
        Kit.same("BARRED by its own WRIST", Kit.pose(u, NONE, 3, 2, 2, 2), 0);
        HandBeasts v = Kit.withHands("h65f0h53", 0);
        Kit.same("BARRED by the other one's WRIST", Kit.pose(v, NONE, 3), 0);
        HandBeasts w = Kit.withHands("h65f0h66f7", 0);
        Kit.same("BARRED by the other one's FINGER", Kit.pose(w, NONE, 3), 0);
    }

    static void promise16Moving() {
        HandBeasts x = Kit.withHands(ONE, 2);
        Kit.same("MOVING", Kit.pose(x, 0, 4, 0, 0), 0);
        x.strain(1);
        Kit.same("STRAINED as it begins", Kit.pose(x, 0, 2, -1, 1), 1);
        Kit.same("STRAINED as it is moved", Kit.pose(x, 0, 2, 0, 1), 2);
        Kit.same("MOVING to less", Kit.pose(x, 0, 4, -1, 0), 3);
        HandBeasts y = Kit.withHands(EDGE, 1);
        Kit.same("BARRED as it is moved", Kit.pose(y, 0, 3, -2), 0);
        Kit.same("BARRED as it begins", Kit.pose(y, 0, 3, 1), 1);
        Kit.same("BARRED both ways", Kit.pose(y, 0, 3, 0), 2);
        y.strain(0);
        Kit.same("BARRED is more than STRAINED", Kit.pose(y, 0, 3, -2), 3);
    }

    static void promise16ByStrainThen() {
        HandBeasts x = Kit.withHands(ONE, 2);
        Kit.pose(x, NONE, 1, 1, 2);
        x.strain(2);
        Kit.tells(x, "about() of STRAIN as it was", x.about(0, 0), 1);
        Kit.pose(x, NONE, 2, 1, 2);
        x.strain(99);
        Kit.tells(x, "about() of STRAIN as it was", x.about(1, 0), 2);
        Kit.same("count(4)", x.count(4), 1);
    }

    static void promise17Help() {
        HandBeasts x = Kit.withHands(ONE, 2);
        Kit.pose(x, NONE, 1, 0, 0);
        Kit.pose(x, 1, 4, 0, 0);
        Kit.shadow(x, 0, 0, 0, 11, 9, 5, 5);
        Kit.same("a HELD one is helped", x.help(0, 0), 3);
        Kit.tells(x, "KIND of it", x.about(0, 0), 5);
        Kit.same("a MOVING one is helped", x.help(1, 0), 3);
        Kit.tells(x, "KIND of it", x.about(1, 0), 5);
        Kit.tells(x, "it does not move any more", x.about(1, 2), NONE);
        Kit.finds(x, "it does not move any more", () -> x.mark(1, 4), Kit.UNLIKE);
        Kit.same("count(4)", x.count(4), 2);
        Kit.shadow(x, 0);
        Kit.same("the CARD is its own", x.mark(0, 5), 3);
        Kit.shadow(x, 0, 7, 7);
        Kit.same("helped anew", x.help(0, 0), 1);
        Kit.same("the CARD anew", x.mark(0, 5), 1);
        Kit.same("thrown with the CARD anew", x.thrown(0, 1), 5);
        Kit.holdsShadow(x, "thrown()", 1, 5, 5, 5, 4, 5, 3, 5, 2, 7, 7);
        Kit.row(x, 0, 4095, 4095, 4095, 4095, 4095, 4095, 4095, 4095, 4095, 4095);
        Kit.same("a CARD of all CELLS", x.help(0, 0), 120);
        Kit.shadow(x, 0);
        Kit.same("a CARD of none", x.help(0, 0), 0);
        Kit.tells(x, "KIND of it", x.about(0, 0), 5);
    }

    static void promise18Back() {
        HandBeasts x = Kit.withHands(ONE, 2);
        Kit.beast(x, 3, 0, 5, 5);
        for (int p = 0; p < 4; p++) Kit.pose(x, NONE, 1, 0, p - 1);
        x.looker(1, 1, 1);
        x.looker(1, 1, 1);
        for (int p = 3; p >= 0; p--) x.call(0, p, 3);
        x.call(1, 1, 3);
        Kit.refused(x, "back(4)", () -> x.back(4), 0);
        Kit.same("back(2)", x.back(2), 2);
        Kit.same("POSES", x.count(3), 2);
        Kit.same("CALLS of those that stay", x.count(7), 3);
        Kit.both(x, "CALLS of LOOKER 0", x.agrees(0), 2, 2);
        Kit.both(x, "CALLS of LOOKER 1", x.agrees(1), 1, 1);
        Kit.same("CALLS of POSE 0", x.odds(0, 3), 1);
        Kit.same("CALLS of POSE 1", x.odds(1, 3), 2);
        Kit.tells(x, "POSE 1 stays", x.turn(1, 1), 0);
        Kit.same("the next POSE", Kit.pose(x, NONE, 1, 1, 1), 2);
        Kit.same("the next CALL", x.call(0, 2, 3), 3);
        Kit.same("back(0)", x.back(0), 3);
        Kit.same("no POSES", x.count(3), 0);
        Kit.same("no CALLS", x.count(7), 0);
        Kit.refused(x, "back(0) again", () -> x.back(0), 0);
    }

    static void promise19About() {
        HandBeasts x = Kit.withHands(ONE, 2);
        Kit.pose(x, NONE, 1, -1, 2);
        Kit.pose(x, 1, 4, -1, -2);
        x.strain(1);
        Kit.pose(x, 0, 2, 0, -1);
        int[][] due = {{1, 3, NONE}, {4, 3, 1}, {2, 1, 0}};
        for (int p = 0; p < 3; p++) {
            for (int what = 0; what < 3; what++) Kit.tells(x, "about(" + p + ", " + what + ")", x.about(p, what), due[p][what]);
        }
        HandBeasts y = Kit.withHands(EDGE, 1);
        Kit.pose(y, 0, 3, -2);
        Kit.tells(y, "KIND of a BARRED one", y.about(0, 0), 3);
        Kit.tells(y, "turns of a BARRED one", y.about(0, 1), 2);
        Kit.tells(y, "JOINT of a BARRED one", y.about(0, 2), 0);
    }

    static void promise20Turn() {
        HandBeasts x = Kit.withHands(ONE, 2);
        Kit.pose(x, 1, 4, -1, -2);
        Kit.pose(x, NONE, 1, 1, 2);
        Kit.tells(x, "turn(0, 0)", x.turn(0, 0), -1);
        Kit.tells(x, "turn(0, 1)", x.turn(0, 1), -2);
        Kit.tells(x, "turn(1, 0)", x.turn(1, 0), 1);
        Kit.tells(x, "turn(1, 1)", x.turn(1, 1), 2);
        Kit.row(x, 5, 0, 0);
        Kit.tells(x, "the ROW is no more looked at", x.turn(1, 1), 2);
    }

    static void promise21MarkOfHeldOnes() {
        HandBeasts x = Kit.withHands(ONE, 2);
        Kit.pose(x, NONE, 1, 0, 0);
        Kit.pose(x, 1, 4, 0, 0);
        Kit.pose(x, NONE, 1, 0, 0);
        Kit.shadow(x, 0, 0, 0, 11, 9, 5, 5, 6, 6, 7, 7);
        x.help(2, 0);
        for (int p = 0; p < 3; p++) Kit.same("mark(" + p + ", 1)", x.mark(p, 1), 4);
        Kit.same("mark(1, 4)", x.mark(1, 4), 1);
        Kit.same("mark(2, 5)", x.mark(2, 5), 5);
        int[][] unlike = {{2, 3, 4, 5}, {2, 3, 5}, {2, 3, 4}};
        for (int p = 0; p < 3; p++) {
            for (int kind : unlike[p]) {
                int of = p;
                Kit.finds(x, "mark(" + p + ", " + kind + ")", () -> x.mark(of, kind), Kit.UNLIKE);
            }
        }
        HandBeasts y = Kit.withHands("h65f0f2h3", 0);
        Kit.pose(y, NONE, 1);
        Kit.same("mark of two HANDS", y.mark(0, 1), 4);
    }

    static void promise21MarkOfStrainedOnes() {
        HandBeasts x = Kit.withHands(ONE, 2);
        x.strain(1);
        Kit.pose(x, NONE, 2, 1, -2);
        Kit.pose(x, 0, 2, 0, 2);
        Kit.pose(x, 0, 2, -1, 2);
        Kit.pose(x, 0, 2, 0, 1);
        x.strain(0);
        Kit.same("3 above 1", x.mark(0, 2), 2);
        Kit.same("2, moved to 3, above 1", x.mark(1, 2), 2);
        Kit.same("3, moved to 2, above 1", x.mark(2, 2), 2);
        Kit.same("1, moved to 2, above 1", x.mark(3, 2), 1);
        for (int kind = 1; kind <= 5; kind++) {
            int of = kind;
            if (kind != 2) Kit.finds(x, "mark(0, " + kind + ")", () -> x.mark(0, of), Kit.UNLIKE);
        }
    }

    private static void barredBy(String signs, int wrong, int... turns) {
        HandBeasts x = Kit.withHands(signs, turns.length);
        Kit.pose(x, NONE, 3, turns);
        Kit.same("mark(0, 3) of " + signs, x.mark(0, 3), wrong);
    }

    static void promise21MarkOfBarredOnes() {
        barredBy("h65h65", 1);
        barredBy("h65f0f0f0", 2);
        barredBy("h65f0h65f0", 2);
        barredBy("h65f0h53", 1);
        barredBy("h53h65f0", 1);
        barredBy("h65f0222222", 1, 2, 2, 2);
        barredBy("h0f7f0f1f6f5", 5);
        barredBy("h0f00000h1f0", 4, 0, 0);
        barredBy("h60f62222", 2, 2, 2);
        barredBy("h60f6f6", 2);
        barredBy("h119f3f2f4", 3);
        HandBeasts x = Kit.withHands(EDGE, 1);
        Kit.pose(x, 0, 3, -2);
        Kit.pose(x, 0, 3, 1);
        Kit.same("as it is moved", x.mark(0, 3), 1);
        Kit.same("as it begins", x.mark(1, 3), 1);
        HandBeasts y = Kit.withHands("h17f0220000", 3);
        Kit.pose(y, 0, 3, -2, 0, 0);
        Kit.same("three out as it is moved", y.mark(0, 3), 3);
        Kit.pose(y, 0, 3, 1, 0, 0);
        Kit.same("three out as it begins", y.mark(1, 3), 3);
        Kit.pose(y, 0, 3, -1, 0, 0);
        Kit.same("three out both ways", y.mark(2, 3), 3);
        for (int kind = 1; kind <= 5; kind++) {
            int of = kind;
            if (kind != 3) Kit.finds(y, "mark(0, " + kind + ")", () -> y.mark(0, of), Kit.UNLIKE);
        }
    }

    static void promise22Shape() {
        HandBeasts x = Kit.withHands(ONE, 2);
        Kit.pose(x, 1, 4, 1, 1);
        Kit.pose(x, NONE, 1, 1, 2);
        Kit.pose(x, NONE, 1, -1, -2);
        Kit.pose(x, NONE, 1, 0, -2);
        x.lamp(2, 1, 1);
        Kit.same("shape of a MOVING one", x.shape(0, 0), 4);
        Kit.holdsShadow(x, "shape of a MOVING one", 0, 5, 5, 5, 4, 6, 3, 7, 3);
        Kit.same("shape by turns on", x.shape(1, 0), 4);
        Kit.holdsShadow(x, "shape by turns on", 0, 5, 5, 5, 4, 6, 3, 7, 4);
        Kit.same("shape by turns back", x.shape(2, 0), 4);
        Kit.holdsShadow(x, "shape by turns back", 0, 5, 5, 5, 4, 4, 3, 3, 4);
        Kit.shadow(x, 1, 0, 0, 1, 1);
        x.help(3, 1);
        Kit.same("shape with no CARD", x.shape(3, 5), 4);
        Kit.holdsShadow(x, "shape with no CARD", 5, 5, 5, 5, 4, 5, 3, 4, 3);
    }

    static void promise22ShapeOfOtherKinds() {
        HandBeasts x = Kit.withHands("h60f62222", 2);
        Kit.pose(x, NONE, 3, 2, 2);
        Kit.same("out of the map and back", x.shape(0, 0), 2);
        Kit.holdsShadow(x, "out of the map and back", 0, 0, 5, 0, 4);
        HandBeasts y = Kit.withHands("h65f0f0h65", 0);
        Kit.pose(y, NONE, 3);
        Kit.same("two in one CELL", y.shape(0, 0), 2);
        HandBeasts z = Kit.withHands("h0f2f4h119", 0);
        Kit.pose(z, NONE, 1);
        Kit.same("the corners", z.shape(0, 0), 4);
        Kit.holdsShadow(z, "the corners", 0, 0, 0, 1, 0, 0, 1, 11, 9);
        HandBeasts u = Kit.withHands("h65f0f1f2f3f4f5h2", 0);
        Kit.pose(u, NONE, 1);
        Kit.same("SIDES 0 to 5", u.shape(0, 0), 8);
        Kit.holdsShadow(u, "SIDES 0 to 5", 0, 5, 5, 2, 0, 5, 4, 6, 4, 6, 5, 6, 6, 5, 6, 4, 6);
        HandBeasts v = Kit.withHands("h65f6f7", 0);
        Kit.pose(v, NONE, 1);
        Kit.same("SIDES 6 and 7", v.shape(0, 0), 3);
        Kit.holdsShadow(v, "SIDES 6 and 7", 0, 5, 5, 4, 5, 4, 4);
        HandBeasts w = new HandBeasts();
        Kit.pose(w, NONE, 1);
        Kit.same("no HANDS", w.shape(0, 0), 0);
        Kit.holdsShadow(w, "no HANDS", 0);
    }

    static void promise23Thrown() {
        HandBeasts x = Kit.withHands(ONE, 2);
        Kit.pose(x, NONE, 1, 1, 2);
        Kit.same("by LAMP 1, 0, 0", x.thrown(0, 0), 4);
        Kit.holdsShadow(x, "by LAMP 1, 0, 0", 0, 5, 5, 5, 4, 6, 3, 7, 4);
        x.lamp(1, 2, -1);
        Kit.same("by LAMP 1, 2, -1", x.thrown(0, 0), 4);
        Kit.holdsShadow(x, "by LAMP 1, 2, -1", 0, 7, 4, 7, 3, 8, 2, 9, 3);
        x.lamp(2, -3, -3);
        Kit.same("by LAMP 2, -3, -3", x.thrown(0, 0), 14);
        Kit.holdsShadow(x, "by LAMP 2, -3, -3", 0, 7, 7, 8, 7, 7, 8, 8, 8, 7, 5, 8, 5, 7, 6, 8, 6,
            9, 3, 10, 3, 9, 4, 10, 4, 11, 5, 11, 6);
        x.lamp(2, 3, 3);
        Kit.same("by LAMP 2, 3, 3", x.thrown(0, 0), 0);
        Kit.holdsShadow(x, "by LAMP 2, 3, 3", 0);
    }

    static void promise23ThrownOutOfTheSheet() {
        HandBeasts x = Kit.withHands("h0h119", 0);
        Kit.pose(x, NONE, 1);
        x.lamp(1, -1, 0);
        Kit.same("the left one is lost", x.thrown(0, 0), 1);
        Kit.holdsShadow(x, "the left one is lost", 0, 10, 9);
        x.lamp(1, 0, -3);
        Kit.same("the upper one is lost", x.thrown(0, 0), 1);
        Kit.holdsShadow(x, "the upper one is lost", 0, 11, 6);
        x.lamp(1, 1, 0);
        Kit.same("the right one is lost", x.thrown(0, 0), 1);
        Kit.holdsShadow(x, "the right one is lost", 0, 1, 0);
        x.lamp(1, 0, 1);
        Kit.same("the lower one is lost", x.thrown(0, 0), 1);
        Kit.holdsShadow(x, "the lower one is lost", 0, 0, 1);
        x.lamp(2, -1, -1);
        Kit.same("a fourth of the large one stays", x.thrown(0, 0), 1);
        Kit.holdsShadow(x, "a fourth of the large one stays", 0, 0, 0);
        HandBeasts y = Kit.withHands("h0f2h60f2", 0);
        Kit.pose(y, NONE, 1);
        Kit.same("CELLS at the left edge, beside others", y.thrown(0, 0), 4);
        Kit.holdsShadow(y, "CELLS at the left edge, beside others", 0, 0, 0, 1, 0, 0, 5, 1, 5);
        x.lamp(2, 0, 3);
        Kit.same("all of the large one stays", x.thrown(0, 0), 4);
        Kit.holdsShadow(x, "all of the large one stays", 0, 0, 3, 1, 3, 0, 4, 1, 4);
    }

    static void promise23ThrownOfOtherKinds() {
        HandBeasts x = Kit.withHands(ONE, 2);
        Kit.pose(x, 1, 4, 0, -2);
        Kit.same("a MOVING one as it begins", x.thrown(0, 0), 4);
        Kit.holdsShadow(x, "a MOVING one as it begins", 0, 5, 5, 5, 4, 5, 3, 4, 3);
        x.lamp(1, 1, 0);
        Kit.shadow(x, 1, 0, 0, 6, 5);
        x.help(0, 1);
        // the reading of this project: a CARD is a SHADOW of its own, which the LAMP does not throw elsewhere
        Kit.same("a HELPED one with its CARD", x.thrown(0, 0), 5);
        Kit.holdsShadow(x, "a HELPED one with its CARD", 0, 6, 5, 6, 4, 6, 3, 5, 3, 0, 0);
        HandBeasts y = Kit.withHands("h60f62222", 2);
        Kit.pose(y, NONE, 3, 2, 2);
        y.lamp(1, 1, 0);
        Kit.same("a BARRED one", y.thrown(0, 0), 2);
        Kit.holdsShadow(y, "a BARRED one", 0, 1, 5, 1, 4);
    }
}

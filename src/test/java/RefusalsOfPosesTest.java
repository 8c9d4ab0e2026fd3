/** Promises 16 to 23: each refusal, two at once, and that nothing is changed by one. */
final class RefusalsOfPosesTest {
    private static final int LEAST = Twins.LEAST, MOST = Twins.MOST, NONE = HandBeasts.NONE;
    private static final Twins.Scene SOME = Scenes::some, FULL = Scenes::full, BARE = Scenes::bare;
    /** Numbers that are no JOINT of two, nor NONE. */
    private static final int[] NO_JOINTS = {LEAST, -10, -8, -1, 2, 6, MOST};

    private RefusalsOfPosesTest() {
    }

    /** A scene with these numbers in ROW 4. JOINT 0 turns by -2 .. 2, JOINT 1 by -1 .. 1. */
    private static Twins.Scene turns(Twins.Scene scene, int... turns) {
        return () -> {
            HandBeasts x = scene.made();
            Kit.row(x, 4, turns);
            return x;
        };
    }

    static void promise16PoseByARowThatIsNone() {
        for (int r : Twins.outside(0, 5)) Twins.bad(SOME, x -> x.pose(r, NONE), x -> x.pose(r, 0));
    }

    static void promise16PoseByAJointThatIsNone() {
        for (int j : NO_JOINTS) Twins.bad(SOME, x -> x.pose(4, j));
        for (int j : new int[] {LEAST, -1, 0, MOST}) Twins.bad(Twins.after(BARE, x -> x.row(4, 0)), x -> x.pose(4, j));
    }

    static void promise16PoseByAMissingRow() {
        Twins.finds(Kit.NOTHING, SOME, x -> x.pose(5, NONE), x -> x.pose(5, 0), x -> x.pose(5, 1));
        Twins.finds(Kit.NOTHING, BARE, x -> x.pose(0, NONE));
    }

    static void promise16PoseByNotAsManyAsJoints() {
        Twins.finds(Kit.SIZE, SOME, x -> x.pose(1, NONE), x -> x.pose(2, NONE), x -> x.pose(0, 1));
        Twins.finds(Kit.SIZE, turns(SOME, 0), x -> x.pose(4, NONE), x -> x.pose(4, 0), x -> x.pose(4, 1));
        Twins.finds(Kit.SIZE, turns(SOME, 0, 0, 0), x -> x.pose(4, NONE), x -> x.pose(4, 1));
        Twins.finds(Kit.SIZE, turns(BARE, 0), x -> x.pose(4, NONE));
        Twins.finds(Kit.SIZE, FULL, x -> x.pose(5, NONE));
    }

    static void promise16PoseByATurnOfJoint0ThatIsNone() {
        for (int v : Twins.outside(-2, 2)) Twins.finds(Kit.UNLIKE, turns(SOME, v, 0), x -> x.pose(4, NONE), x -> x.pose(4, 1));
    }

    static void promise16PoseByATurnOfJoint1ThatIsNone() {
        for (int v : Twins.outside(-1, 1)) Twins.finds(Kit.UNLIKE, turns(SOME, 0, v), x -> x.pose(4, NONE), x -> x.pose(4, 0));
    }

    static void promise16PoseByAJointThatCannotTurnOneMore() {
        Twins.bad(turns(SOME, 2, 0), x -> x.pose(4, 0));
        Twins.bad(turns(SOME, 0, 1), x -> x.pose(4, 1));
        Twins.bad(turns(SOME, 2, 1), x -> x.pose(4, 0), x -> x.pose(4, 1));
    }

    static void promise16PoseThirteenth() {
        Twins.answers(HandBeasts.FULL, FULL, x -> x.pose(4, NONE), x -> x.pose(4, 0), x -> x.pose(4, 1));
    }

    static void promise16PoseBadAheadOfNothing() {
        for (int j : NO_JOINTS) Twins.bad(SOME, x -> x.pose(5, j));
        for (int r : Twins.outside(0, 5)) Twins.bad(BARE, x -> x.pose(r, NONE));
    }

    static void promise16PoseBadAheadOfSize() {
        for (int j : NO_JOINTS) Twins.bad(SOME, x -> x.pose(1, j), x -> x.pose(0, j));
    }

    static void promise16PoseBadAheadOfUnlike() {
        for (int j : NO_JOINTS) Twins.bad(turns(SOME, 3, 0), x -> x.pose(4, j));
    }

    static void promise16PoseBadAheadOfFull() {
        for (int j : NO_JOINTS) Twins.bad(FULL, x -> x.pose(4, j));
        for (int r : Twins.outside(0, 5)) Twins.bad(FULL, x -> x.pose(r, NONE));
    }

    static void promise16PoseNothingAheadOfFull() {
        Twins.finds(Kit.NOTHING, Twins.after(FULL, x -> x.tear(5)), x -> x.pose(5, NONE), x -> x.pose(5, 1));
    }

    static void promise16PoseSizeAheadOfUnlike() {
        Twins.finds(Kit.SIZE, turns(SOME, 3), x -> x.pose(4, NONE), x -> x.pose(4, 0));
        Twins.finds(Kit.SIZE, turns(SOME, 3, 0, 0), x -> x.pose(4, NONE));
    }

    static void promise16PoseSizeAheadOfAJointThatCannot() {
        Twins.finds(Kit.SIZE, turns(SOME, 2), x -> x.pose(4, 0));
        Twins.finds(Kit.SIZE, turns(SOME, 2, 1, 0), x -> x.pose(4, 0), x -> x.pose(4, 1));
    }

    static void promise16PoseSizeAheadOfFull() {
        Twins.finds(Kit.SIZE, FULL, x -> x.pose(5, NONE), x -> x.pose(0, 0));
    }

    static void promise16PoseUnlikeAheadOfAJointThatCannot() {
        Twins.finds(Kit.UNLIKE, turns(SOME, 2, 2), x -> x.pose(4, 0), x -> x.pose(4, 1));
        Twins.finds(Kit.UNLIKE, turns(SOME, 3, 1), x -> x.pose(4, 0), x -> x.pose(4, 1));
        Twins.finds(Kit.UNLIKE, turns(SOME, MOST, 0), x -> x.pose(4, 0));
    }

    static void promise16PoseUnlikeAheadOfFull() {
        Twins.finds(Kit.UNLIKE, turns(FULL, -3, 0), x -> x.pose(4, NONE), x -> x.pose(4, 1));
    }

    static void promise16PoseOfAJointThatCannotAheadOfFull() {
        Twins.bad(turns(FULL, 2, 1), x -> x.pose(4, 0), x -> x.pose(4, 1));
    }

    // Of SOME, POSES 0 (HELD), 1 (MOVING) and 2 (HELPED) can be helped, 3 (STRAINED) and 4 (BARRED) cannot.

    static void promise17HelpOfAPoseThatIsNone() {
        for (int p : Twins.outside(0, 4)) Twins.bad(SOME, x -> x.help(p, 0));
        Twins.bad(FULL, x -> x.help(12, 0));
        Twins.bad(BARE, x -> x.help(0, 0));
    }

    static void promise17HelpByARowThatIsNone() {
        for (int r : Twins.outside(0, 5)) Twins.bad(SOME, x -> x.help(0, r), x -> x.help(2, r));
    }

    static void promise17HelpOfAPoseThatIsNotHeld() {
        Twins.finds(Kit.UNLIKE, SOME, x -> x.help(3, 0), x -> x.help(4, 0));
    }

    static void promise17HelpByAMissingRow() {
        Twins.finds(Kit.NOTHING, SOME, x -> x.help(0, 5), x -> x.help(1, 5), x -> x.help(2, 5));
    }

    static void promise17HelpByNotTenNumbers() {
        Twins.finds(Kit.SIZE, SOME, x -> x.help(0, 1), x -> x.help(1, 2), x -> x.help(2, 2));
        Twins.finds(Kit.SIZE, Twins.after(SOME, x -> x.row(5, 11)), x -> x.help(0, 5), x -> x.help(2, 5));
        Twins.finds(Kit.SIZE, FULL, x -> x.help(0, 5));
    }

    static void promise17HelpByANumberThatIsNone() {
        for (int v : Twins.outside(0, 4095)) {
            for (int i = 0; i < 10; i++) {
                int at = i;
                Twins.finds(Kit.UNLIKE, Twins.after(SOME, x -> x.lay(0, at, v)), x -> x.help(at % 3, 0));
            }
        }
    }

    static void promise17HelpBadAheadOfAllOthers() {
        for (int p : Twins.outside(0, 4)) Twins.bad(SOME, x -> x.help(p, 5), x -> x.help(p, 1), x -> x.help(p, 3));
        for (int r : Twins.outside(0, 5)) Twins.bad(SOME, x -> x.help(3, r), x -> x.help(4, r));
    }

    static void promise17HelpUnlikePoseAheadOfNothing() {
        Twins.finds(Kit.UNLIKE, SOME, x -> x.help(3, 5), x -> x.help(4, 5));
    }

    static void promise17HelpUnlikePoseAheadOfSize() {
        Twins.finds(Kit.UNLIKE, SOME, x -> x.help(3, 1), x -> x.help(4, 2));
    }

    static void promise17HelpSizeAheadOfUnlikeNumber() {
        Twins.finds(Kit.SIZE, Twins.after(SOME, x -> x.lay(2, 4, -1)), x -> x.help(0, 2), x -> x.help(2, 2));
        Twins.finds(Kit.SIZE, Twins.after(SOME, x -> x.row(5, 11) + x.lay(5, 10, 4096)), x -> x.help(1, 5));
    }

    static void promise18BackToWhatIsNone() {
        for (int n : Twins.outside(0, 5)) Twins.bad(SOME, x -> x.back(n));
        for (int n : Twins.outside(0, 12)) Twins.bad(FULL, x -> x.back(n));
        for (int n : Twins.outside(0, 0)) Twins.bad(BARE, x -> x.back(n));
    }

    static void promise18BackOfNone() {
        Twins.answers(0, SOME, x -> x.back(5));
        Twins.answers(0, FULL, x -> x.back(12));
        Twins.answers(0, BARE, x -> x.back(0));
    }

    static void promise19AboutAPoseThatIsNone() {
        for (int p : Twins.outside(0, 4)) Twins.bad(SOME, x -> x.about(p, 0), x -> x.about(p, 2), x -> x.about(p, 3));
        Twins.bad(FULL, x -> x.about(12, 0));
        Twins.bad(BARE, x -> x.about(0, 0));
    }

    static void promise19AboutWhatIsNone() {
        for (int what : Twins.outside(0, 2)) Twins.bad(SOME, x -> x.about(0, what), x -> x.about(2, what), x -> x.about(4, what));
    }

    static void promise20TurnOfAPoseThatIsNone() {
        for (int p : Twins.outside(0, 4)) Twins.bad(SOME, x -> x.turn(p, 0), x -> x.turn(p, 2));
        Twins.bad(FULL, x -> x.turn(12, 0));
        Twins.bad(BARE, x -> x.turn(0, 0));
    }

    static void promise20TurnOfAJointThatIsNone() {
        for (int j : NO_JOINTS) Twins.bad(SOME, x -> x.turn(0, j), x -> x.turn(4, j));
        Twins.bad(SOME, x -> x.turn(0, NONE), x -> x.turn(1, NONE));
        Twins.bad(Twins.after(BARE, x -> x.row(0, 0) + x.pose(0, NONE)), x -> x.turn(0, 0), x -> x.turn(0, -1));
    }

    static void promise21MarkOfAPoseThatIsNone() {
        for (int p : Twins.outside(0, 4)) Twins.bad(SOME, x -> x.mark(p, 1), x -> x.mark(p, 3));
        Twins.bad(FULL, x -> x.mark(12, 1));
        Twins.bad(BARE, x -> x.mark(0, 1));
    }

    static void promise21MarkOfKind0() {
        Twins.bad(SOME, x -> x.mark(0, 0), x -> x.mark(1, 0), x -> x.mark(2, 0), x -> x.mark(3, 0), x -> x.mark(4, 0));
    }

    static void promise21MarkOfAKindThatIsNone() {
        for (int kind : Twins.outside(1, 5)) Twins.bad(SOME, x -> x.mark(0, kind), x -> x.mark(2, kind), x -> x.mark(4, kind));
    }

    private static void unlike(int p, int... kinds) {
        for (int kind : kinds) Twins.finds(Kit.UNLIKE, SOME, x -> x.mark(p, kind));
    }

    static void promise21MarkOfAHeldOneAsAnother() {
        unlike(0, 2, 3, 4, 5);
    }

    static void promise21MarkOfAMovingOneAsAnother() {
        unlike(1, 2, 3, 5);
    }

    static void promise21MarkOfAHelpedOneAsAnother() {
        unlike(2, 2, 3, 4);
    }

    static void promise21MarkOfAStrainedOneAsAnother() {
        unlike(3, 1, 3, 4, 5);
    }

    static void promise21MarkOfABarredOneAsAnother() {
        unlike(4, 1, 2, 4, 5);
    }

    static void promise21MarkBadAheadOfUnlike() {
        for (int p : Twins.outside(0, 4)) Twins.bad(SOME, x -> x.mark(p, 5));
        for (int kind : Twins.outside(1, 5)) Twins.bad(SOME, x -> x.mark(3, kind));
    }

    static void promise22ShapeOfAPoseThatIsNone() {
        for (int p : Twins.outside(0, 4)) Twins.bad(SOME, x -> x.shape(p, 0), x -> x.shape(p, 5), x -> x.shape(p, 6));
        Twins.bad(FULL, x -> x.shape(12, 0));
        Twins.bad(BARE, x -> x.shape(0, 0));
    }

    static void promise22ShapeToARowThatIsNone() {
        for (int r : Twins.outside(0, 5)) Twins.bad(SOME, x -> x.shape(0, r), x -> x.shape(4, r));
    }

    static void promise23ThrownOfAPoseThatIsNone() {
        for (int p : Twins.outside(0, 4)) Twins.bad(SOME, x -> x.thrown(p, 0), x -> x.thrown(p, 5), x -> x.thrown(p, 6));
        Twins.bad(FULL, x -> x.thrown(12, 0));
        Twins.bad(BARE, x -> x.thrown(0, 0));
    }

    static void promise23ThrownToARowThatIsNone() {
        for (int r : Twins.outside(0, 5)) Twins.bad(SOME, x -> x.thrown(0, r), x -> x.thrown(2, r));
    }
}

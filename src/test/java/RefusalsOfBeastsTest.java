/** Promises 24 to 36: each refusal, two at once, what is NONE, and that nothing is changed by any of them. */
final class RefusalsOfBeastsTest {
    private static final int LEAST = Twins.LEAST, MOST = Twins.MOST, NONE = HandBeasts.NONE, SPENT = HandBeasts.SPENT;
    private static final int STATE = HandBeasts.STATE;
    private static final Twins.Scene SOME = Scenes::some, FULL = Scenes::full, BARE = Scenes::bare, MANY = Scenes::spent;
    private static final Twins.Scene NONE_HELD = Scenes::noneHeld;
    /** As MANY, of one HAND. */
    private static final Twins.Scene MANY_OF_ONE = Twins.after(MANY, x -> {
        Kit.text(x, 2, Scenes.MANY_TURNS);
        return x.hands(2);
    });

    private RefusalsOfBeastsTest() {
    }

    // ---- 24 beast(). Of SOME, ROW 0 is a SHADOW, 1 of none, 2 of nine, 3 of ten with a 4096, 5 is missing.

    static void promise24BeastThatIsNone() {
        for (int k : Twins.outside(0, 5)) Twins.bad(SOME, x -> x.beast(k, 0, 0, 0));
    }

    static void promise24BeastOfRowsThatAreNone() {
        for (int r : Twins.outside(0, 5)) Twins.bad(SOME, x -> x.beast(0, r, 0, 0), x -> x.beast(0, 0, r, 0), x -> x.beast(1, r, r, 1));
    }

    static void promise24BeastOfMovesThatAreNone() {
        for (int moves : Twins.outside(0, 1)) Twins.bad(SOME, x -> x.beast(0, 0, 0, moves), x -> x.beast(1, 0, 0, moves));
    }

    static void promise24BeastOfAMissingRow() {
        Twins.finds(Kit.NOTHING, SOME, x -> x.beast(0, 5, 0, 0), x -> x.beast(0, 0, 5, 0), x -> x.beast(1, 5, 5, 1));
    }

    static void promise24BeastOfNotTenNumbers() {
        Twins.finds(Kit.SIZE, SOME, x -> x.beast(0, 2, 0, 0), x -> x.beast(0, 0, 2, 0), x -> x.beast(1, 1, 0, 0), x -> x.beast(1, 0, 1, 1));
        Twins.finds(Kit.SIZE, Twins.after(SOME, x -> x.row(5, 11)), x -> x.beast(0, 5, 0, 0), x -> x.beast(0, 0, 5, 0));
        Twins.finds(Kit.SIZE, FULL, x -> x.beast(0, 5, 0, 0), x -> x.beast(0, 0, 5, 0));
    }

    static void promise24BeastOfANumberThatIsNone() {
        for (int v : Twins.outside(0, 4095)) {
            for (int i = 0; i < 10; i++) {
                int at = i;
                Twins.Scene scene = Twins.after(SOME, x -> x.lay(3, 3, 0) + x.lay(3, at, v));
                Twins.finds(Kit.UNLIKE, scene, x -> x.beast(0, 3, 0, 0), x -> x.beast(1, 0, 3, 1));
            }
        }
    }

    static void promise24BeastBadAheadOfAllOthers() {
        for (int k : Twins.outside(0, 5)) Twins.bad(SOME, x -> x.beast(k, 5, 0, 0), x -> x.beast(k, 0, 2, 0), x -> x.beast(k, 3, 0, 0));
        for (int r : Twins.outside(0, 5)) Twins.bad(SOME, x -> x.beast(0, r, 5, 0), x -> x.beast(0, 2, r, 0), x -> x.beast(0, 3, r, 0));
        for (int m : Twins.outside(0, 1)) Twins.bad(SOME, x -> x.beast(0, 5, 5, m), x -> x.beast(0, 0, 2, m), x -> x.beast(0, 3, 0, m));
    }

    static void promise24BeastNothingOfEitherAheadOfSize() {
        Twins.finds(Kit.NOTHING, SOME, x -> x.beast(0, 5, 2, 0), x -> x.beast(0, 2, 5, 0), x -> x.beast(0, 1, 5, 0));
    }

    static void promise24BeastNothingOfEitherAheadOfUnlike() {
        Twins.finds(Kit.NOTHING, SOME, x -> x.beast(0, 5, 3, 0), x -> x.beast(0, 3, 5, 0));
    }

    static void promise24BeastSizeOfEitherAheadOfUnlike() {
        Twins.finds(Kit.SIZE, SOME, x -> x.beast(0, 2, 3, 0), x -> x.beast(0, 3, 2, 0));
        Twins.finds(Kit.SIZE, Twins.after(SOME, x -> x.lay(2, 0, -1)), x -> x.beast(0, 2, 0, 0), x -> x.beast(0, 0, 2, 0));
    }

    // ---- 25 off(), 32 where()

    static void promise25OffOfAPoseThatIsNone() {
        for (int p : Twins.outside(0, 4)) Twins.bad(SOME, x -> x.off(p, 0));
        Twins.bad(FULL, x -> x.off(12, 0));
        Twins.bad(BARE, x -> x.off(0, 0));
    }

    static void promise25OffByABeastThatIsNone() {
        for (int k : Twins.outside(0, 5)) Twins.bad(SOME, x -> x.off(0, k));
    }

    static void promise25OffByAMissingBeast() {
        Twins.finds(Kit.NOTHING, SOME, x -> x.off(0, 1), x -> x.off(4, 2), x -> x.off(2, 5));
    }

    static void promise25OffBadAheadOfNothing() {
        for (int p : Twins.outside(0, 4)) Twins.bad(SOME, x -> x.off(p, 1));
    }

    static void promise32WhereOfAPoseThatIsNone() {
        for (int p : Twins.outside(0, 4)) Twins.bad(SOME, x -> x.where(p, 0));
        Twins.bad(FULL, x -> x.where(12, 0));
        Twins.bad(BARE, x -> x.where(0, 0));
    }

    static void promise32WhereByABeastThatIsNone() {
        for (int k : Twins.outside(0, 5)) Twins.bad(SOME, x -> x.where(0, k));
    }

    static void promise32WhereByAMissingBeast() {
        Twins.finds(Kit.NOTHING, SOME, x -> x.where(0, 1), x -> x.where(4, 2), x -> x.where(2, 5));
    }

    static void promise32WhereBadAheadOfNothing() {
        for (int p : Twins.outside(0, 4)) Twins.bad(SOME, x -> x.where(p, 1));
    }

    // ---- 26 many(), 27 nearest(), 28 never()

    static void promise26ManySpent() {
        Twins.answers(SPENT, MANY, x -> x.many());
        Twins.answers(SPENT, MANY_OF_ONE, x -> x.many());
    }

    static void promise27NearestToABeastThatIsNone() {
        for (int k : Twins.outside(0, 5)) Twins.bad(SOME, x -> x.nearest(k, 0));
    }

    static void promise27NearestInARowThatIsNone() {
        for (int r : Twins.outside(0, 5)) Twins.bad(SOME, x -> x.nearest(0, r));
    }

    static void promise27NearestToAMissingBeast() {
        Twins.finds(Kit.NOTHING, SOME, x -> x.nearest(1, 0), x -> x.nearest(5, 5));
        Twins.finds(Kit.NOTHING, BARE, x -> x.nearest(0, 0));
    }

    static void promise27NearestSpent() {
        Twins.answers(SPENT, MANY, x -> x.nearest(0, 0), x -> x.nearest(0, 5));
    }

    static void promise27NearestOfNoneHeld() {
        Twins.answers(NONE, NONE_HELD, x -> x.nearest(0, 0), x -> x.nearest(0, 1), x -> x.nearest(0, 5));
    }

    static void promise27NearestBadAheadOfNothingAndSpent() {
        for (int r : Twins.outside(0, 5)) {
            Twins.bad(SOME, x -> x.nearest(1, r));
            Twins.bad(MANY, x -> x.nearest(0, r), x -> x.nearest(r, 0));
        }
    }

    static void promise27NearestNothingAheadOfSpent() {
        Twins.finds(Kit.NOTHING, MANY, x -> x.nearest(1, 0), x -> x.nearest(5, 5));
    }

    static void promise27NearestNothingAheadOfNone() {
        Twins.finds(Kit.NOTHING, NONE_HELD, x -> x.nearest(1, 0));
    }

    static void promise28NeverOfABeastThatIsNone() {
        for (int k : Twins.outside(0, 5)) Twins.bad(SOME, x -> x.never(k, 0));
    }

    static void promise28NeverInARowThatIsNone() {
        for (int r : Twins.outside(0, 5)) Twins.bad(SOME, x -> x.never(0, r));
    }

    static void promise28NeverOfAMissingBeast() {
        Twins.finds(Kit.NOTHING, SOME, x -> x.never(1, 0), x -> x.never(5, 5));
        Twins.finds(Kit.NOTHING, BARE, x -> x.never(0, 0));
    }

    static void promise28NeverSpent() {
        Twins.answers(SPENT, MANY, x -> x.never(0, 0), x -> x.never(0, 5));
    }

    static void promise28NeverBadAheadOfNothingAndSpent() {
        for (int r : Twins.outside(0, 5)) {
            Twins.bad(SOME, x -> x.never(1, r));
            Twins.bad(MANY, x -> x.never(0, r), x -> x.never(r, 0));
        }
    }

    static void promise28NeverNothingAheadOfSpent() {
        Twins.finds(Kit.NOTHING, MANY, x -> x.never(1, 0), x -> x.never(5, 5));
    }

    // ---- 29 sets(), 33 picture(): alike, but that picture() can be NONE

    private static Kit.Act of(boolean sets, int r) {
        return x -> sets ? x.sets(r) : x.picture(r);
    }

    private static void ofMissingRows(boolean sets) {
        Twins.finds(Kit.NOTHING, SOME, of(sets, 5));
        Twins.finds(Kit.NOTHING, BARE, of(sets, 0), of(sets, 5));
    }

    private static void ofNotTenNumbers(boolean sets) {
        Twins.finds(Kit.SIZE, SOME, of(sets, 1), of(sets, 2));
        Twins.finds(Kit.SIZE, Twins.after(SOME, x -> x.row(5, 11)), of(sets, 5));
        Twins.finds(Kit.SIZE, FULL, of(sets, 5));
    }

    private static void ofANumberThatIsNone(boolean sets) {
        for (int v : Twins.outside(0, 4095)) {
            for (int i = 0; i < 10; i++) {
                int at = i;
                Twins.finds(Kit.UNLIKE, Twins.after(SOME, x -> x.lay(0, at, v)), of(sets, 0));
            }
        }
    }

    private static void sizeAheadOfUnlike(boolean sets) {
        Twins.finds(Kit.SIZE, Twins.after(SOME, x -> x.lay(2, 8, 4096)), of(sets, 2));
        Twins.finds(Kit.SIZE, Twins.after(SOME, x -> x.row(5, 11) + x.lay(5, 10, -1)), of(sets, 5));
    }

    private static void spent(boolean sets) {
        Twins.answers(SPENT, MANY, of(sets, 0));
        Twins.answers(SPENT, MANY_OF_ONE, of(sets, 0));
    }

    private static void allAheadOfSpent(boolean sets) {
        for (int r : Twins.outside(0, 5)) Twins.bad(MANY, of(sets, r));
        Twins.finds(Kit.NOTHING, MANY, of(sets, 5));
        Twins.finds(Kit.SIZE, MANY, of(sets, 1), of(sets, 4));
        Twins.finds(Kit.UNLIKE, MANY, of(sets, 2));
    }

    static void promise29SetsOfARowThatIsNone() {
        for (int r : Twins.outside(0, 5)) Twins.bad(SOME, of(true, r));
    }

    static void promise29SetsOfAMissingRow() {
        ofMissingRows(true);
    }

    static void promise29SetsOfNotTenNumbers() {
        ofNotTenNumbers(true);
    }

    static void promise29SetsOfANumberThatIsNone() {
        ofANumberThatIsNone(true);
    }

    static void promise29SetsSizeAheadOfUnlike() {
        sizeAheadOfUnlike(true);
    }

    static void promise29SetsSpent() {
        spent(true);
    }

    static void promise29SetsAllAheadOfSpent() {
        allAheadOfSpent(true);
    }

    static void promise33PictureOfARowThatIsNone() {
        for (int r : Twins.outside(0, 5)) Twins.bad(SOME, of(false, r));
    }

    static void promise33PictureOfAMissingRow() {
        ofMissingRows(false);
    }

    static void promise33PictureOfNotTenNumbers() {
        ofNotTenNumbers(false);
    }

    static void promise33PictureOfANumberThatIsNone() {
        ofANumberThatIsNone(false);
    }

    static void promise33PictureSizeAheadOfUnlike() {
        sizeAheadOfUnlike(false);
    }

    static void promise33PictureSpent() {
        spent(false);
    }

    static void promise33PictureAllAheadOfSpent() {
        allAheadOfSpent(false);
    }

    static void promise33PictureThatCanBeNoHands() {
        Twins.answers(NONE, SOME, x -> x.picture(0));
        Twins.answers(NONE, NONE_HELD, x -> x.picture(0));
    }

    // ---- 30 way(), 31 unseen(). Of SOME, POSES 0, 1, 2 are HELD, 3 (STRAINED), 4 (BARRED) are not; BEASTS 0 and 3.

    static void promise30WayOfPosesThatAreNone() {
        for (int p : Twins.outside(0, 4)) Twins.bad(SOME, x -> x.way(p, 0), x -> x.way(0, p), x -> x.way(p, p));
        Twins.bad(FULL, x -> x.way(12, 0), x -> x.way(0, 12));
        Twins.bad(BARE, x -> x.way(0, 0));
    }

    static void promise30WayOfPosesThatAreNotHeld() {
        Twins.finds(Kit.UNLIKE, SOME, x -> x.way(3, 0), x -> x.way(0, 3), x -> x.way(4, 1), x -> x.way(2, 4), x -> x.way(3, 3));
    }

    static void promise30WayOfOneThatWasStrained() {
        Twins.finds(Kit.UNLIKE, Twins.after(SOME, x -> x.strain(99)), x -> x.way(3, 0), x -> x.way(0, 3), x -> x.way(3, 3));
    }

    static void promise30WaySpent() {
        Twins.answers(SPENT, MANY, x -> x.way(0, 0));
    }

    static void promise30WayBadAheadOfUnlike() {
        for (int p : Twins.outside(0, 4)) Twins.bad(SOME, x -> x.way(p, 3), x -> x.way(4, p));
    }

    static void promise30WayBadAheadOfSpent() {
        for (int p : Twins.outside(0, 1)) Twins.bad(MANY, x -> x.way(p, 0), x -> x.way(0, p));
    }

    static void promise30WayUnlikeAheadOfSpent() {
        Twins.finds(Kit.UNLIKE, MANY, x -> x.way(0, 1), x -> x.way(1, 0), x -> x.way(1, 1));
    }

    static void promise30WayThatThereIsNone() {
        Twins.answers(NONE, Twins.after(SOME, x -> x.strain(0)), x -> x.way(0, 1), x -> x.way(1, 0), x -> x.way(1, 1));
    }

    static void promise31UnseenOfPosesThatAreNone() {
        for (int p : Twins.outside(0, 4)) Twins.bad(SOME, x -> x.unseen(p, 0, 0, 0), x -> x.unseen(0, p, 0, 0));
        Twins.bad(FULL, x -> x.unseen(12, 0, 0, 0), x -> x.unseen(0, 12, 0, 0));
        Twins.bad(BARE, x -> x.unseen(0, 0, 0, 0));
    }

    static void promise31UnseenByABeastThatIsNone() {
        for (int k : Twins.outside(0, 5)) Twins.bad(SOME, x -> x.unseen(0, 1, k, 0), x -> x.unseen(0, 0, k, 120));
    }

    static void promise31UnseenByOutOf0To120() {
        for (int d : Twins.outside(0, 120)) Twins.bad(SOME, x -> x.unseen(0, 1, 0, d), x -> x.unseen(0, 0, 0, d));
    }

    static void promise31UnseenOfPosesThatAreNotHeld() {
        Twins.finds(Kit.UNLIKE, SOME, x -> x.unseen(3, 0, 0, 0), x -> x.unseen(0, 3, 0, 0), x -> x.unseen(4, 4, 3, 120));
    }

    static void promise31UnseenByAMissingBeast() {
        Twins.finds(Kit.NOTHING, SOME, x -> x.unseen(0, 1, 1, 0), x -> x.unseen(0, 0, 5, 120));
    }

    static void promise31UnseenSpent() {
        Twins.answers(SPENT, MANY, x -> x.unseen(0, 0, 0, 0), x -> x.unseen(0, 0, 0, 120));
    }

    static void promise31UnseenBadAheadOfAllOthers() {
        for (int p : Twins.outside(0, 4)) Twins.bad(SOME, x -> x.unseen(p, 3, 0, 0), x -> x.unseen(4, p, 0, 0), x -> x.unseen(p, 0, 1, 0));
        for (int k : Twins.outside(0, 5)) Twins.bad(SOME, x -> x.unseen(0, 3, k, 0), x -> x.unseen(4, 0, k, 0));
        for (int d : Twins.outside(0, 120)) Twins.bad(SOME, x -> x.unseen(0, 3, 0, d), x -> x.unseen(0, 1, 1, d));
        for (int d : Twins.outside(0, 120)) Twins.bad(MANY, x -> x.unseen(0, 0, 0, d), x -> x.unseen(1, 0, 0, d));
    }

    static void promise31UnseenUnlikeAheadOfNothing() {
        Twins.finds(Kit.UNLIKE, SOME, x -> x.unseen(3, 0, 1, 0), x -> x.unseen(0, 4, 5, 0));
    }

    static void promise31UnseenUnlikeAheadOfSpent() {
        Twins.finds(Kit.UNLIKE, MANY, x -> x.unseen(0, 1, 0, 0), x -> x.unseen(1, 0, 0, 0), x -> x.unseen(1, 1, 1, 0));
    }

    static void promise31UnseenNothingAheadOfSpent() {
        Twins.finds(Kit.NOTHING, MANY, x -> x.unseen(0, 0, 1, 0), x -> x.unseen(0, 0, 5, 120));
    }

    static void promise31UnseenThatThereIsNone() {
        Twins.answers(NONE, Twins.after(SOME, x -> x.strain(0)), x -> x.unseen(0, 1, 0, 0), x -> x.unseen(1, 1, 0, 0));
    }

    // ---- 34 order()

    static void promise34OrderOfNone() {
        Twins.bad(SOME, x -> x.order(0, 0));
        Twins.bad(BARE, x -> x.order(0, 0));
    }

    static void promise34OrderOfPosesThatAreNone() {
        Twins.bad(SOME, x -> x.order(1 << 5, 0), x -> x.order(1 << 5 | 1, 0), x -> x.order(1 << 12, 0), x -> x.order(1 << 30 | 1, 0),
            x -> x.order(LEAST, 0), x -> x.order(LEAST | 1, 0), x -> x.order(-1, 0), x -> x.order(MOST, 0));
        Twins.bad(FULL, x -> x.order(1 << 12, 0), x -> x.order(1 << 12 | 1, 0), x -> x.order(LEAST | 3, 0));
        Twins.bad(BARE, x -> x.order(1, 0));
    }

    static void promise34OrderOfMoreThan8() {
        Twins.bad(FULL, x -> x.order(511, 0), x -> x.order(4095, 0), x -> x.order(4095 - 7, 0));
    }

    static void promise34OrderInARowThatIsNone() {
        for (int r : Twins.outside(0, 5)) Twins.bad(SOME, x -> x.order(1, r), x -> x.order(7, r));
    }

    static void promise34OrderOfPosesThatAreNotHeld() {
        Twins.finds(Kit.UNLIKE, SOME, x -> x.order(1 << 3, 0), x -> x.order(1 << 4, 0), x -> x.order(31, 0), x -> x.order(1 << 4 | 1, 5));
    }

    static void promise34OrderOfOneThatIsBarred() {
        Twins.finds(Kit.UNLIKE, NONE_HELD, x -> x.order(1, 0), x -> x.order(1, 5));
    }

    static void promise34OrderSpent() {
        Twins.answers(SPENT, MANY, x -> x.order(1, 0), x -> x.order(1, 5));
    }

    static void promise34OrderBadAheadOfUnlike() {
        for (int r : Twins.outside(0, 5)) Twins.bad(SOME, x -> x.order(1 << 3, r), x -> x.order(31, r));
        Twins.bad(SOME, x -> x.order(1 << 5 | 1 << 3, 0), x -> x.order(LEAST | 1 << 4, 0));
        Twins.bad(Twins.after(FULL, x -> {
            x.back(11);
            Kit.row(x, 4, 0, -1);
            return x.pose(4, NONE);
        }), x -> x.order(4095, 0), x -> x.order(4095 - 7, 0));
    }

    static void promise34OrderBadAheadOfSpent() {
        for (int r : Twins.outside(0, 5)) Twins.bad(MANY, x -> x.order(1, r));
        Twins.bad(MANY, x -> x.order(0, 0), x -> x.order(4, 0), x -> x.order(LEAST, 0));
    }

    static void promise34OrderUnlikeAheadOfSpent() {
        Twins.finds(Kit.UNLIKE, MANY, x -> x.order(2, 0), x -> x.order(3, 5));
    }

    static void promise34OrderThatThereIsNone() {
        Twins.answers(NONE, Twins.after(SOME, x -> x.strain(1)), x -> x.order(7, 0), x -> x.order(7, 5), x -> x.order(4, 0), x -> x.order(5, 3));
    }

    // ---- 35 two(), 36 stiff()

    static void promise35TwoOfBeastsThatAreNone() {
        for (int k : Twins.outside(0, 5)) Twins.bad(SOME, x -> x.two(k, 0), x -> x.two(0, k), x -> x.two(k, k));
    }

    static void promise35TwoOfNotTwoHands() {
        Twins.answers(STATE, NONE_HELD, x -> x.two(0, 0));
        Twins.answers(STATE, Twins.after(SOME, x -> x.hands(2)), x -> x.two(0, 3), x -> x.two(3, 3));
    }

    static void promise35TwoOfMissingBeasts() {
        Twins.finds(Kit.NOTHING, SOME, x -> x.two(0, 1), x -> x.two(1, 0), x -> x.two(2, 5));
    }

    static void promise35TwoSpent() {
        Twins.answers(SPENT, MANY, x -> x.two(0, 0));
    }

    static void promise35TwoBadAheadOfAllOthers() {
        for (int k : Twins.outside(0, 5)) {
            Twins.bad(NONE_HELD, x -> x.two(k, 0), x -> x.two(0, k));
            Twins.bad(SOME, x -> x.two(k, 1), x -> x.two(1, k));
            Twins.bad(MANY, x -> x.two(k, 0), x -> x.two(0, k));
        }
    }

    static void promise35TwoStateAheadOfNothing() {
        Twins.answers(STATE, NONE_HELD, x -> x.two(0, 1), x -> x.two(1, 0), x -> x.two(1, 1));
        Twins.answers(STATE, BARE, x -> x.two(0, 0));
    }

    static void promise35TwoStateAheadOfSpent() {
        Twins.answers(STATE, MANY_OF_ONE, x -> x.two(0, 0), x -> x.two(1, 0));
    }

    static void promise35TwoNothingAheadOfSpent() {
        Twins.finds(Kit.NOTHING, MANY, x -> x.two(0, 1), x -> x.two(1, 0));
    }

    static void promise35TwoOfNoneHeld() {
        Twins.answers(NONE, Twins.after(NONE_HELD, x -> {
            Kit.text(x, 2, "h5f011h65");
            return x.hands(2);
        }), x -> x.two(0, 0));
        Twins.answers(NONE, Twins.after(NONE_HELD, x -> {
            Kit.text(x, 2, "h65h5f011");
            return x.hands(2);
        }), x -> x.two(0, 0));
    }

    static void promise36StiffOfAJointThatIsNone() {
        for (int j : Twins.outside(0, 1)) Twins.bad(SOME, x -> x.stiff(j, 0));
        Twins.bad(SOME, x -> x.stiff(NONE, 0));
        Twins.bad(Twins.after(SOME, x -> x.hands(2)), x -> x.stiff(0, 0), x -> x.stiff(-1, 0));
    }

    static void promise36StiffByABeastThatIsNone() {
        for (int k : Twins.outside(0, 5)) Twins.bad(SOME, x -> x.stiff(0, k));
    }

    static void promise36StiffByAMissingBeast() {
        Twins.finds(Kit.NOTHING, SOME, x -> x.stiff(0, 1), x -> x.stiff(1, 5));
    }

    static void promise36StiffSpent() {
        Twins.answers(SPENT, MANY, x -> x.stiff(0, 0), x -> x.stiff(5, 0));
    }

    static void promise36StiffBadAheadOfAllOthers() {
        for (int j : Twins.outside(0, 1)) Twins.bad(SOME, x -> x.stiff(j, 1));
        for (int j : Twins.outside(0, 5)) Twins.bad(MANY, x -> x.stiff(j, 0), x -> x.stiff(0, j));
    }

    static void promise36StiffNothingAheadOfSpent() {
        Twins.finds(Kit.NOTHING, MANY, x -> x.stiff(0, 1), x -> x.stiff(5, 5));
    }

    static void promise36StiffOfNoneHeld() {
        Twins.answers(NONE, NONE_HELD, x -> x.stiff(0, 0));
    }
}

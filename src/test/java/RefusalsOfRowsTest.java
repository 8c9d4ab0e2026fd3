/** Promises 2 to 15: each refusal, two at once, and that nothing is changed by one. */
final class RefusalsOfRowsTest {
    private static final int LEAST = Twins.LEAST, MOST = Twins.MOST;
    private static final Twins.Scene SOME = Scenes::some, FULL = Scenes::full, BARE = Scenes::bare;

    private RefusalsOfRowsTest() {
    }

    static void promise02RowThatIsNone() {
        for (int r : Twins.outside(0, 5)) Twins.bad(SOME, x -> x.row(r, 1), x -> x.row(r, 0), x -> x.row(r, 40));
    }

    static void promise02RowOfMoreThan40() {
        for (int r = 0; r < 6; r++) {
            int of = r;
            Twins.bad(SOME, x -> x.row(of, 41), x -> x.row(of, MOST));
        }
    }

    static void promise02RowOfFewerThanNone() {
        for (int r = 0; r < 6; r++) {
            int of = r;
            Twins.finds(Kit.SIZE, SOME, x -> x.row(of, -1), x -> x.row(of, LEAST));
        }
    }

    static void promise02RowBadAheadOfSize() {
        for (int r : Twins.outside(0, 5)) Twins.bad(SOME, x -> x.row(r, -1), x -> x.row(r, LEAST), x -> x.row(r, 41));
    }

    static void promise03LayInARowThatIsNone() {
        for (int r : Twins.outside(0, 5)) Twins.bad(SOME, x -> x.lay(r, 0, 1));
    }

    static void promise03LayInAMissingRow() {
        Twins.finds(Kit.NOTHING, SOME, x -> x.lay(5, 0, 1));
        for (int r = 0; r < 6; r++) {
            int of = r;
            Twins.finds(Kit.NOTHING, BARE, x -> x.lay(of, 0, 0));
        }
    }

    static void promise03LayBeyond() {
        for (int i : Twins.outside(0, 9)) Twins.finds(Kit.BEYOND, SOME, x -> x.lay(0, i, 1));
        for (int i : Twins.outside(0, 8)) Twins.finds(Kit.BEYOND, SOME, x -> x.lay(2, i, 1));
        for (int i : Twins.outside(0, 39)) Twins.finds(Kit.BEYOND, FULL, x -> x.lay(5, i, 1));
    }

    static void promise03LayBeyondARowOfNone() {
        for (int i : new int[] {LEAST, -1, 0, 1, MOST}) Twins.finds(Kit.BEYOND, SOME, x -> x.lay(1, i, 1));
    }

    static void promise03LayBadAheadOfBeyond() {
        for (int r : Twins.outside(0, 5)) Twins.bad(SOME, x -> x.lay(r, -1, 1), x -> x.lay(r, 40, 1));
    }

    static void promise03LayNothingAheadOfBeyond() {
        for (int i : Twins.outside(0, 39)) Twins.finds(Kit.NOTHING, SOME, x -> x.lay(5, i, 1));
    }

    static void promise04AtOfARowThatIsNone() {
        for (int r : Twins.outside(0, 5)) Twins.bad(SOME, x -> x.at(r, 0));
    }

    static void promise04AtOfAMissingRow() {
        Twins.finds(Kit.NOTHING, SOME, x -> x.at(5, 0));
        for (int r = 0; r < 6; r++) {
            int of = r;
            Twins.finds(Kit.NOTHING, BARE, x -> x.at(of, 0));
        }
    }

    static void promise04AtBeyond() {
        for (int i : Twins.outside(0, 9)) Twins.finds(Kit.BEYOND, SOME, x -> x.at(0, i));
        for (int i : Twins.outside(0, 39)) Twins.finds(Kit.BEYOND, FULL, x -> x.at(5, i));
    }

    static void promise04AtBeyondARowOfNone() {
        for (int i : new int[] {LEAST, -1, 0, 1, MOST}) Twins.finds(Kit.BEYOND, SOME, x -> x.at(1, i));
    }

    static void promise04AtBadAheadOfBeyond() {
        for (int r : Twins.outside(0, 5)) Twins.bad(SOME, x -> x.at(r, -1), x -> x.at(r, 40));
    }

    static void promise04AtNothingAheadOfBeyond() {
        for (int i : Twins.outside(0, 39)) Twins.finds(Kit.NOTHING, SOME, x -> x.at(5, i));
    }

    static void promise05TearOfARowThatIsNone() {
        for (int r : Twins.outside(0, 5)) Twins.bad(SOME, x -> x.tear(r));
    }

    static void promise05TearOfAMissingRow() {
        Twins.finds(Kit.NOTHING, SOME, x -> x.tear(5));
        Twins.finds(Kit.NOTHING, Twins.after(SOME, x -> x.tear(0)), x -> x.tear(0));
        for (int r = 0; r < 6; r++) {
            int of = r;
            Twins.finds(Kit.NOTHING, BARE, x -> x.tear(of));
        }
    }

    static void promise06CopyOfRowsThatAreNone() {
        for (int r : Twins.outside(0, 5)) Twins.bad(SOME, x -> x.copy(r, 0, 0, 0, 1), x -> x.copy(0, 0, r, 0, 1), x -> x.copy(r, 0, r, 0, 1));
    }

    static void promise06CopyOfFewerThanNone() {
        Twins.finds(Kit.SIZE, SOME, x -> x.copy(0, 5, 2, 5, -1), x -> x.copy(0, 5, 2, 5, LEAST), x -> x.copy(0, 5, 0, 5, -1));
    }

    static void promise06CopyOfMissingRows() {
        Twins.finds(Kit.NOTHING, SOME, x -> x.copy(5, 0, 0, 0, 1), x -> x.copy(0, 0, 5, 0, 1), x -> x.copy(5, 0, 5, 0, 0));
        Twins.finds(Kit.NOTHING, BARE, x -> x.copy(0, 0, 0, 0, 0));
    }

    // ROW 0 is of ten places, ROW 2 of nine, ROW 1 of none.

    static void promise06CopyFromBelow0() {
        for (int i : new int[] {-1, LEAST}) Twins.finds(Kit.BEYOND, SOME, x -> x.copy(0, i, 2, 0, 1), x -> x.copy(0, i, 0, 0, 9));
    }

    static void promise06CopyToBelow0() {
        for (int j : new int[] {-1, LEAST}) Twins.finds(Kit.BEYOND, SOME, x -> x.copy(0, 0, 2, j, 1), x -> x.copy(0, 0, 0, j, 9));
    }

    static void promise06CopyOfNoneFromBelow0() {
        for (int i : new int[] {-1, LEAST}) Twins.finds(Kit.BEYOND, SOME, x -> x.copy(0, i, 2, 0, 0), x -> x.copy(1, i, 1, 0, 0));
    }

    static void promise06CopyOfNoneToBelow0() {
        for (int j : new int[] {-1, LEAST}) Twins.finds(Kit.BEYOND, SOME, x -> x.copy(0, 0, 2, j, 0), x -> x.copy(1, 0, 1, j, 0));
    }

    static void promise06CopyOfNoneFromAboveTheSize() {
        for (int i : new int[] {11, MOST}) Twins.finds(Kit.BEYOND, SOME, x -> x.copy(0, i, 2, 0, 0));
        Twins.finds(Kit.BEYOND, SOME, x -> x.copy(1, 1, 0, 0, 0));
    }

    static void promise06CopyOfNoneToAboveTheSize() {
        for (int j : new int[] {10, MOST}) Twins.finds(Kit.BEYOND, SOME, x -> x.copy(0, 0, 2, j, 0));
        Twins.finds(Kit.BEYOND, SOME, x -> x.copy(0, 0, 1, 1, 0));
    }

    static void promise06CopyOfMoreThanThereAre() {
        Twins.finds(Kit.BEYOND, SOME, x -> x.copy(2, 0, 0, 0, 10), x -> x.copy(2, 5, 0, 0, 5), x -> x.copy(2, 9, 0, 0, 1),
            x -> x.copy(1, 0, 0, 0, 1), x -> x.copy(2, 0, 0, 0, MOST), x -> x.copy(2, 1, 0, 0, MOST), x -> x.copy(2, MOST, 0, 0, MOST));
    }

    static void promise06CopyToMoreThanThereAre() {
        Twins.finds(Kit.BEYOND, SOME, x -> x.copy(0, 0, 2, 0, 10), x -> x.copy(0, 0, 2, 5, 5), x -> x.copy(0, 0, 2, 9, 1),
            x -> x.copy(0, 0, 1, 0, 1), x -> x.copy(0, 0, 2, MOST, 1), x -> x.copy(0, 0, 0, 1, 10), x -> x.copy(0, 0, 0, 9, 2));
    }

    static void promise06CopyBadAheadOfAllOthers() {
        for (int r : Twins.outside(0, 5)) {
            Twins.bad(SOME, x -> x.copy(r, 0, 0, 0, -1), x -> x.copy(0, 0, r, 0, -1), x -> x.copy(r, 0, 5, 0, 1),
                x -> x.copy(5, 0, r, 0, 1), x -> x.copy(r, -1, 0, 0, 1), x -> x.copy(0, 0, r, 0, 41));
        }
    }

    static void promise06CopySizeAheadOfNothing() {
        Twins.finds(Kit.SIZE, SOME, x -> x.copy(5, 0, 0, 0, -1), x -> x.copy(0, 0, 5, 0, -1), x -> x.copy(5, 0, 5, 0, LEAST));
    }

    static void promise06CopySizeAheadOfBeyond() {
        Twins.finds(Kit.SIZE, SOME, x -> x.copy(0, -1, 2, 0, -1), x -> x.copy(0, 0, 2, 10, -1), x -> x.copy(0, 11, 2, 0, LEAST));
    }

    static void promise06CopyNothingAheadOfBeyond() {
        Twins.finds(Kit.NOTHING, SOME, x -> x.copy(0, -1, 5, 0, 1), x -> x.copy(5, 0, 0, -1, 1), x -> x.copy(0, 0, 5, 0, 11),
            x -> x.copy(5, 0, 0, 0, 11), x -> x.copy(5, -1, 5, 41, MOST));
    }

    static void promise07MeanOfARowThatIsNone() {
        for (int r : Twins.outside(0, 5)) Twins.bad(SOME, x -> x.mean(r));
    }

    static void promise07MeanOfAMissingRow() {
        Twins.finds(Kit.NOTHING, SOME, x -> x.mean(5));
        Twins.finds(Kit.NOTHING, BARE, x -> x.mean(0));
    }

    static void promise07MeanOfNone() {
        Twins.finds(Kit.NOUGHT, SOME, x -> x.mean(1));
    }

    static void promise08TextThatIsNone() {
        for (int t : Twins.outside(0, 3)) Twins.bad(SOME, x -> x.text(t, 1), x -> x.text(t, 0), x -> x.text(t, 80));
    }

    static void promise08TextOfMoreThan80() {
        for (int t = 0; t < 4; t++) {
            int of = t;
            Twins.bad(SOME, x -> x.text(of, 81), x -> x.text(of, MOST));
        }
    }

    static void promise08TextOfFewerThanNone() {
        for (int t = 0; t < 4; t++) {
            int of = t;
            Twins.finds(Kit.SIZE, SOME, x -> x.text(of, -1), x -> x.text(of, LEAST));
        }
    }

    static void promise08TextBadAheadOfSize() {
        for (int t : Twins.outside(0, 3)) Twins.bad(SOME, x -> x.text(t, -1), x -> x.text(t, LEAST), x -> x.text(t, 81));
    }

    static void promise09PutInATextThatIsNone() {
        for (int t : Twins.outside(0, 3)) Twins.bad(SOME, x -> x.put(t, 0, 32));
    }

    static void promise09PutInAMissingText() {
        Twins.finds(Kit.NOTHING, SOME, x -> x.put(3, 0, 32));
        for (int t = 0; t < 4; t++) {
            int of = t;
            Twins.finds(Kit.NOTHING, BARE, x -> x.put(of, 0, 32));
        }
    }

    static void promise09PutBeyond() {
        for (int i : Twins.outside(0, Scenes.TWO_HANDS.length() - 1)) Twins.finds(Kit.BEYOND, SOME, x -> x.put(0, i, 1));
        for (int i : Twins.outside(0, 79)) Twins.finds(Kit.BEYOND, FULL, x -> x.put(3, i, 1));
    }

    static void promise09PutBeyondATextOfNone() {
        for (int i : new int[] {LEAST, -1, 0, 1, MOST}) Twins.finds(Kit.BEYOND, SOME, x -> x.put(2, i, 1));
    }

    static void promise09PutBadAheadOfBeyond() {
        for (int t : Twins.outside(0, 3)) Twins.bad(SOME, x -> x.put(t, -1, 1), x -> x.put(t, 80, 1));
    }

    static void promise09PutNothingAheadOfBeyond() {
        for (int i : Twins.outside(0, 79)) Twins.finds(Kit.NOTHING, SOME, x -> x.put(3, i, 1));
    }

    static void promise10FaultOfATextThatIsNone() {
        for (int t : Twins.outside(0, 3)) Twins.bad(SOME, x -> x.fault(t));
    }

    static void promise10FaultOfAMissingText() {
        Twins.finds(Kit.NOTHING, SOME, x -> x.fault(3));
        Twins.finds(Kit.NOTHING, BARE, x -> x.fault(0), x -> x.fault(1), x -> x.fault(2), x -> x.fault(3));
    }

    static void promise10FaultThatThereIsNone() {
        Twins.answers(HandBeasts.NONE, SOME, x -> x.fault(0), x -> x.fault(2));
    }

    static void promise11HandsOfATextThatIsNone() {
        for (int t : Twins.outside(0, 3)) Twins.bad(SOME, x -> x.hands(t));
    }

    static void promise11HandsOfAMissingText() {
        Twins.finds(Kit.NOTHING, SOME, x -> x.hands(3));
        Twins.finds(Kit.NOTHING, BARE, x -> x.hands(0), x -> x.hands(3));
    }

    static void promise11HandsOfAFault() {
        Twins.answers(HandBeasts.STATE, SOME, x -> x.hands(1));
        Twins.answers(HandBeasts.STATE, Twins.after(SOME, x -> x.put(0, 13, 'x')), x -> x.hands(0));
        Twins.answers(HandBeasts.STATE, Twins.after(BARE, x -> x.text(0, 1) + x.put(0, 0, 'h')), x -> x.hands(0));
    }

    static void promise12FingerThatIsNone() {
        for (int f : Twins.outside(0, 1)) Twins.bad(SOME, x -> x.finger(f, 0), x -> x.finger(f, 3));
        for (int f : new int[] {LEAST, -1, 0, MOST}) Twins.bad(BARE, x -> x.finger(f, 0));
    }

    static void promise12FingerOfWhatIsNone() {
        for (int what : Twins.outside(0, 3)) Twins.bad(SOME, x -> x.finger(0, what), x -> x.finger(1, what), x -> x.finger(2, what));
    }

    static void promise13JointThatIsNone() {
        for (int j : Twins.outside(0, 1)) Twins.bad(SOME, x -> x.joint(j, 0), x -> x.joint(j, 2));
        for (int j : new int[] {LEAST, HandBeasts.NONE, -1, 0, MOST}) Twins.bad(BARE, x -> x.joint(j, 0));
    }

    static void promise13JointOfWhatIsNone() {
        for (int what : Twins.outside(0, 2)) Twins.bad(SOME, x -> x.joint(0, what), x -> x.joint(1, what), x -> x.joint(2, what));
    }

    static void promise14StrainOutOf0To99() {
        for (int v : Twins.outside(0, 99)) Twins.bad(SOME, x -> x.strain(v));
    }

    static void promise15LampOfZOutOf1To2() {
        for (int z : Twins.outside(1, 2)) Twins.bad(SOME, x -> x.lamp(z, 0, 0), x -> x.lamp(z, -3, 3), x -> x.lamp(z, 4, 0));
    }

    static void promise15LampOfDxOutOfMinus3To3() {
        for (int dx : Twins.outside(-3, 3)) Twins.bad(SOME, x -> x.lamp(1, dx, 0), x -> x.lamp(2, dx, 3), x -> x.lamp(1, dx, 4));
    }

    static void promise15LampOfDyOutOfMinus3To3() {
        for (int dy : Twins.outside(-3, 3)) Twins.bad(SOME, x -> x.lamp(1, 0, dy), x -> x.lamp(2, 3, dy));
    }
}

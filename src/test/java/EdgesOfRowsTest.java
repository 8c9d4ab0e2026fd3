/** Promises 1 to 9, a test for each sentence that names a bound, at the bound: what is just within it is taken. */
final class EdgesOfRowsTest {
    private static final int LEAST = Twins.LEAST, MOST = Twins.MOST;

    private EdgesOfRowsTest() {
    }

    // ---- 1 ROWS 0 .. 5 are rows of 0 to 40 ints, TEXTS 0 .. 3 rows of 0 to 80 bytes, or missing (at first)

    static void promise01RowsAreMissingAtFirst() {
        HandBeasts x = new HandBeasts();
        for (int r = 0; r < 6; r++) {
            int of = r;
            Kit.finds(x, "at()", () -> x.at(of, 0), Kit.NOTHING);
        }
        Kit.same("count(8)", x.count(8), 0);
    }

    static void promise01TextsAreMissingAtFirst() {
        HandBeasts x = new HandBeasts();
        for (int t = 0; t < 4; t++) {
            int of = t;
            Kit.finds(x, "put()", () -> x.put(of, 0, 32), Kit.NOTHING);
        }
        Kit.same("count(9)", x.count(9), 0);
    }

    static void promise01BeastsAreMissingAtFirst() {
        HandBeasts x = new HandBeasts();
        Kit.pose(x, HandBeasts.NONE, 1);
        for (int k = 0; k < 6; k++) {
            int of = k;
            Kit.finds(x, "off()", () -> x.off(0, of), Kit.NOTHING);
        }
        Kit.same("count(5)", x.count(5), 0);
    }

    static void promise01NoHandsPosesLookersCallsAtFirst() {
        HandBeasts x = new HandBeasts();
        for (int what : new int[] {0, 1, 2, 3, 4, 6, 7}) Kit.same("count(" + what + ")", x.count(what), 0);
    }

    static void promise02EachRowIsOneOfItsOwn() {
        HandBeasts x = new HandBeasts();
        for (int r = 0; r < 6; r++) {
            Kit.same("row()", x.row(r, r + 1), r + 1);
            Kit.same("count(8)", x.count(8), r + 1);
            x.lay(r, r, 100 + r);
        }
        for (int r = 0; r < 6; r++) Kit.tells(x, "at(" + r + ")", x.at(r, r), 100 + r);
    }

    static void promise02RowOfNone() {
        HandBeasts x = new HandBeasts();
        Kit.same("row(0, 0)", x.row(0, 0), 0);
        Kit.same("count(8)", x.count(8), 1);
        Kit.finds(x, "at(0, 0)", () -> x.at(0, 0), Kit.BEYOND);
    }

    static void promise02RowOf40() {
        HandBeasts x = new HandBeasts();
        Kit.same("row(5, 40)", x.row(5, 40), 40);
        for (int i = 0; i < 40; i++) Kit.tells(x, "lay(5, " + i + ")", x.lay(5, i, 1000 + i), 0);
        for (int i = 0; i < 40; i++) Kit.tells(x, "at(5, " + i + ")", x.at(5, i), 1000 + i);
    }

    static void promise02RowAnewIsAll0() {
        HandBeasts x = new HandBeasts();
        x.row(3, 40);
        for (int i = 0; i < 40; i++) x.lay(3, i, -1);
        Kit.same("row(3, 39)", x.row(3, 39), 39);
        Kit.finds(x, "at(3, 39)", () -> x.at(3, 39), Kit.BEYOND);
        Kit.same("row(3, 40)", x.row(3, 40), 40);
        for (int i = 0; i < 40; i++) Kit.tells(x, "at(3, " + i + ")", x.at(3, i), 0);
    }

    static void promise02RowAnewLeavesTheOthers() {
        HandBeasts x = new HandBeasts();
        Kit.row(x, 1, 5);
        Kit.row(x, 3, 6);
        x.row(2, 40);
        Kit.holds(x, "row(2)", 1, 5);
        Kit.holds(x, "row(2)", 3, 6);
    }

    static void promise03LayOfTheLeastAndTheMost() {
        HandBeasts x = new HandBeasts();
        x.row(0, 2);
        Kit.tells(x, "lay()", x.lay(0, 0, LEAST), 0);
        Kit.tells(x, "lay()", x.lay(0, 1, MOST), 0);
        Kit.tells(x, "what it was", x.lay(0, 0, MOST), LEAST);
        Kit.tells(x, "what it was", x.lay(0, 1, LEAST), MOST);
        Kit.holds(x, "lay()", 0, MOST, LEAST);
    }

    static void promise03LayAtTheFirstAndTheLastPlace() {
        HandBeasts x = new HandBeasts();
        Kit.row(x, 0, 1, 2, 3);
        Kit.tells(x, "lay(0, 0)", x.lay(0, 0, 7), 1);
        Kit.tells(x, "lay(0, 2)", x.lay(0, 2, 9), 3);
        Kit.holds(x, "lay()", 0, 7, 2, 9);
    }

    static void promise03LayOfWhatItIs() {
        HandBeasts x = new HandBeasts();
        Kit.row(x, 0, 4);
        Kit.tells(x, "lay()", x.lay(0, 0, 4), 4);
        Kit.holds(x, "lay()", 0, 4);
    }

    static void promise04AtTheFirstAndTheLastPlace() {
        HandBeasts x = new HandBeasts();
        Kit.row(x, 5, LEAST, 2, MOST);
        Kit.tells(x, "at(5, 0)", x.at(5, 0), LEAST);
        Kit.tells(x, "at(5, 2)", x.at(5, 2), MOST);
    }

    static void promise05TearOfEachRow() {
        for (int r = 0; r < 6; r++) {
            HandBeasts x = new HandBeasts();
            for (int i = 0; i < 6; i++) x.row(i, 40);
            Kit.same("tear(" + r + ")", x.tear(r), 1);
            Kit.same("count(8)", x.count(8), 5);
            for (int i = 0; i < 6; i++) Kit.same("at(" + i + ", 39)", x.at(i, 39), i == r ? HandBeasts.FINDING : 1);
        }
    }

    static void promise05TearOfARowOfNone() {
        HandBeasts x = new HandBeasts();
        x.row(0, 0);
        Kit.same("tear(0)", x.tear(0), 1);
        Kit.finds(x, "tear(0) again", () -> x.tear(0), Kit.NOTHING);
    }

    static void promise05TornAndThereAgain() {
        HandBeasts x = new HandBeasts();
        Kit.row(x, 0, 1, 2);
        x.tear(0);
        Kit.same("row(0, 2)", x.row(0, 2), 2);
        Kit.holds(x, "row(0, 2)", 0, 0, 0);
    }

    private static HandBeasts twoRows() {
        HandBeasts x = new HandBeasts();
        Kit.row(x, 0, 1, 2, 3, 4, 5);
        Kit.row(x, 1, 6, 7, 8);
        return x;
    }

    static void promise06CopyOfAll40() {
        HandBeasts x = new HandBeasts();
        x.row(0, 40);
        for (int i = 0; i < 40; i++) x.lay(0, i, i * i - 300);
        x.row(5, 40);
        Kit.same("copy()", x.copy(0, 0, 5, 0, 40), 1);
        for (int i = 0; i < 40; i++) Kit.tells(x, "at(5, " + i + ")", x.at(5, i), i * i - 300);
    }

    static void promise06CopyJustAllThereAre() {
        HandBeasts x = twoRows();
        Kit.same("copy()", x.copy(0, 2, 1, 0, 3), 1);
        Kit.holds(x, "copy()", 1, 3, 4, 5);
        Kit.same("copy()", x.copy(1, 0, 0, 2, 3), 1);
        Kit.holds(x, "copy()", 0, 1, 2, 3, 4, 5);
    }

    static void promise06CopyOfOneAtTheLastPlaces() {
        HandBeasts x = twoRows();
        Kit.same("copy()", x.copy(0, 4, 1, 2, 1), 1);
        Kit.holds(x, "copy()", 1, 6, 7, 5);
    }

    static void promise06CopyOfNoneAtTheSizes() {
        HandBeasts x = twoRows();
        Kit.same("copy()", x.copy(0, 5, 1, 3, 0), 1);
        Kit.same("copy()", x.copy(0, 0, 1, 0, 0), 1);
        Kit.holds(x, "copy()", 0, 1, 2, 3, 4, 5);
        Kit.holds(x, "copy()", 1, 6, 7, 8);
    }

    static void promise06CopyOfNoneOfRowsOfNone() {
        HandBeasts x = twoRows();
        x.row(2, 0);
        Kit.same("copy() to itself", x.copy(2, 0, 2, 0, 0), 1);
        Kit.same("copy() from it", x.copy(2, 0, 1, 3, 0), 1);
        Kit.same("copy() to it", x.copy(1, 3, 2, 0, 0), 1);
        Kit.holds(x, "copy()", 2);
    }

    static void promise06CopyToItselfAsIfTakenAhead() {
        HandBeasts x = twoRows();
        Kit.same("copy on by one", x.copy(0, 0, 0, 1, 4), 1);
        Kit.holds(x, "copy on by one", 0, 1, 1, 2, 3, 4);
        Kit.same("copy back by one", x.copy(0, 1, 0, 0, 4), 1);
        Kit.holds(x, "copy back by one", 0, 1, 2, 3, 4, 4);
        Kit.same("copy to where it is", x.copy(0, 1, 0, 1, 4), 1);
        Kit.holds(x, "copy to where it is", 0, 1, 2, 3, 4, 4);
    }

    static void promise06CopyLeavesTheRowItIsFrom() {
        HandBeasts x = twoRows();
        x.copy(0, 1, 1, 0, 2);
        Kit.holds(x, "copy()", 0, 1, 2, 3, 4, 5);
        Kit.holds(x, "copy()", 1, 2, 3, 8);
        x.lay(0, 1, 9);
        Kit.holds(x, "lay() thereafter", 1, 2, 3, 8);
    }

    private static void mean(int mean, int... places) {
        HandBeasts x = new HandBeasts();
        Kit.row(x, 4, places);
        Kit.tells(x, "mean(4)", x.mean(4), mean);
    }

    static void promise07MeanIsCut() {
        mean(3, 3, 4);
        mean(2, 2, 3, 3);
        mean(0, 1, 0, 0);
        mean(0, 0, 0, 2);
        mean(1, 1, 1, 1);
    }

    static void promise07MeanBelow0IsCut() {
        mean(-3, -3, -4);
        mean(-2, -2, -3, -3);
        mean(0, -1, 0, 0);
        mean(0, 0, 0, -2);
        mean(0, LEAST, MOST);
    }

    static void promise07MeanOfOne() {
        mean(LEAST, LEAST);
        mean(MOST, MOST);
        mean(0, 0);
    }

    static void promise07MeanOf40OfTheMost() {
        int[] most = new int[40];
        java.util.Arrays.fill(most, MOST);
        mean(MOST, most);
    }

    static void promise07MeanOf40OfTheLeast() {
        int[] least = new int[40];
        java.util.Arrays.fill(least, LEAST);
        mean(LEAST, least);
    }

    static void promise07MeanIsOfThisRow() {
        HandBeasts x = twoRows();
        Kit.tells(x, "mean(0)", x.mean(0), 3);
        Kit.tells(x, "mean(1)", x.mean(1), 7);
        Kit.holds(x, "mean()", 1, 6, 7, 8);
    }

    static void promise08EachTextIsOneOfItsOwn() {
        HandBeasts x = new HandBeasts();
        for (int t = 0; t < 4; t++) {
            Kit.same("text()", x.text(t, 1), 1);
            Kit.same("count(9)", x.count(9), t + 1);
            x.put(t, 0, 100 + t);
        }
        for (int t = 0; t < 4; t++) Kit.same("put(" + t + ")", x.put(t, 0, 0), 1100 + t);
    }

    static void promise08TextOfNone() {
        HandBeasts x = new HandBeasts();
        Kit.same("text(3, 0)", x.text(3, 0), 0);
        Kit.same("count(9)", x.count(9), 1);
        Kit.finds(x, "put(3, 0)", () -> x.put(3, 0, 32), Kit.BEYOND);
        Kit.same("fault(3)", x.fault(3), HandBeasts.NONE);
    }

    static void promise08TextOf80() {
        HandBeasts x = new HandBeasts();
        Kit.same("text(3, 80)", x.text(3, 80), 80);
        for (int i = 0; i < 80; i++) Kit.same("put over a blank", x.put(3, i, i + 40), 1032);
        for (int i = 0; i < 80; i++) Kit.same("put(3, " + i + ")", x.put(3, i, 0), 1040 + i);
    }

    static void promise08TextAnewIsAllBlanks() {
        HandBeasts x = new HandBeasts();
        x.text(0, 80);
        for (int i = 0; i < 80; i++) x.put(0, i, 'h');
        Kit.same("text(0, 79)", x.text(0, 79), 79);
        Kit.finds(x, "put(0, 79)", () -> x.put(0, 79, 32), Kit.BEYOND);
        Kit.same("text(0, 80)", x.text(0, 80), 80);
        for (int i = 0; i < 80; i++) Kit.same("put(0, " + i + ")", x.put(0, i, 1), 1032);
    }

    /** What byte is there after this was put. */
    private static void cut(int v, int there) {
        HandBeasts x = new HandBeasts();
        x.text(0, 3);
        Kit.same("put()", x.put(0, 1, v), 1032);
        Kit.same("what " + v + " became, and 1000", x.put(0, 1, 32), 1000 + there);
    }

    static void promise09PutOfABytesBounds() {
        cut(-128, -128);
        cut(127, 127);
        cut(-1, -1);
        cut(0, 0);
        cut(32, 32);
    }

    static void promise09PutIsCutJustAboveAByte() {
        cut(128, -128);
        cut(255, -1);
        cut(256, 0);
        cut(256 + 104, 104);
    }

    static void promise09PutIsCutJustBelowAByte() {
        cut(-129, 127);
        cut(-256, 0);
        cut(-256 + 104, 104);
    }

    static void promise09PutOfTheLeastAndTheMost() {
        cut(LEAST, 0);
        cut(LEAST + 5, 5);
        cut(MOST, -1);
        cut(MOST - 5, -6);
    }

    static void promise09PutAtTheFirstAndTheLastPlace() {
        HandBeasts x = new HandBeasts();
        x.text(2, 80);
        Kit.same("put(2, 0)", x.put(2, 0, 104), 1032);
        Kit.same("put(2, 79)", x.put(2, 79, 102), 1032);
        Kit.same("put(2, 0)", x.put(2, 0, -128), 1104);
        Kit.same("put(2, 79)", x.put(2, 79, 127), 1102);
        Kit.same("put(2, 0)", x.put(2, 0, 0), 872);
        Kit.same("put(2, 79)", x.put(2, 79, 0), 1127);
        Kit.same("put(2, 1)", x.put(2, 1, 0), 1032);
        Kit.same("put(2, 78)", x.put(2, 78, 0), 1032);
    }
}

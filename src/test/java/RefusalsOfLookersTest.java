/** Promises 37 to 49: each refusal, two at once, what is NONE, and that nothing is changed by any of them. */
final class RefusalsOfLookersTest {
    private static final int NONE = HandBeasts.NONE;
    private static final Twins.Scene SOME = Scenes::some, FULL = Scenes::full, BARE = Scenes::bare;

    private RefusalsOfLookersTest() {
    }

    static void promise37LookerOfWeightsOutOf0To9() {
        for (int w : Twins.outside(0, 9)) Twins.bad(SOME, x -> x.looker(w, 1, 1), x -> x.looker(1, w, 1), x -> x.looker(1, 1, w));
    }

    static void promise37LookerNinth() {
        Twins.answers(HandBeasts.FULL, FULL, x -> x.looker(0, 0, 0), x -> x.looker(9, 9, 9));
    }

    static void promise37LookerBadAheadOfFull() {
        for (int w : Twins.outside(0, 9)) Twins.bad(FULL, x -> x.looker(w, 1, 1), x -> x.looker(1, w, 1), x -> x.looker(1, 1, w));
    }

    static void promise38WeightOfALookerThatIsNone() {
        for (int l : Twins.outside(0, 1)) Twins.bad(SOME, x -> x.weight(l, 0), x -> x.weight(l, 3));
        for (int l : Twins.outside(0, 7)) Twins.bad(FULL, x -> x.weight(l, 2));
        Twins.bad(BARE, x -> x.weight(0, 0));
    }

    static void promise38WeightThatIsNone() {
        for (int what : Twins.outside(0, 2)) Twins.bad(SOME, x -> x.weight(0, what), x -> x.weight(1, what));
    }

    // ---- 39 call(). Of SOME there are LOOKERS 0 and 1, POSES 0 to 4, BEASTS 0 and 3.

    static void promise39CallOfALookerThatIsNone() {
        for (int l : Twins.outside(0, 1)) Twins.bad(SOME, x -> x.call(l, 0, 0));
        Twins.bad(BARE, x -> x.call(0, 0, 0));
    }

    static void promise39CallOfAPoseThatIsNone() {
        for (int p : Twins.outside(0, 4)) Twins.bad(SOME, x -> x.call(0, p, 0));
    }

    static void promise39CallOfABeastsPlaceThatIsNone() {
        for (int k : Twins.outside(0, 5)) Twins.bad(SOME, x -> x.call(0, 0, k));
    }

    static void promise39CallOfAMissingBeast() {
        Twins.finds(Kit.NOTHING, SOME, x -> x.call(0, 0, 1), x -> x.call(1, 4, 5));
    }

    static void promise39Call25th() {
        Twins.answers(HandBeasts.FULL, FULL, x -> x.call(0, 0, 0), x -> x.call(7, 11, 5));
    }

    static void promise39CallBadAheadOfNothing() {
        for (int l : Twins.outside(0, 1)) Twins.bad(SOME, x -> x.call(l, 0, 1));
        for (int p : Twins.outside(0, 4)) Twins.bad(SOME, x -> x.call(0, p, 1));
    }

    static void promise39CallBadAheadOfFull() {
        for (int l : Twins.outside(0, 7)) Twins.bad(FULL, x -> x.call(l, 0, 0));
        for (int p : Twins.outside(0, 11)) Twins.bad(FULL, x -> x.call(0, p, 0));
        for (int k : Twins.outside(0, 5)) Twins.bad(FULL, x -> x.call(0, 0, k));
    }

    /** All that is full but for BEAST 5, which is missing. */
    private static HandBeasts fullOfFiveBeasts() {
        HandBeasts x = Kit.withHands(Scenes.TWO_HANDS, 2);
        Kit.pose(x, NONE, 1, 0, 0);
        for (int k = 0; k < 5; k++) Kit.beast(x, k, 0, 5, 5);
        x.looker(1, 1, 1);
        for (int c = 0; c < 24; c++) Kit.same("call()", x.call(0, 0, c % 5), c);
        return x;
    }

    static void promise39CallNothingAheadOfFull() {
        Twins.finds(Kit.NOTHING, RefusalsOfLookersTest::fullOfFiveBeasts, x -> x.call(0, 0, 5));
    }

    // ---- 40 guess(), 41 agrees(), 42 fit(), 43 odds()

    static void promise40GuessOfALookerThatIsNone() {
        for (int l : Twins.outside(0, 1)) Twins.bad(SOME, x -> x.guess(l, 0));
        for (int l : Twins.outside(0, 7)) Twins.bad(FULL, x -> x.guess(l, 0));
        Twins.bad(BARE, x -> x.guess(0, 0));
    }

    static void promise40GuessOfAPoseThatIsNone() {
        for (int p : Twins.outside(0, 4)) Twins.bad(SOME, x -> x.guess(0, p));
        for (int p : Twins.outside(0, 11)) Twins.bad(FULL, x -> x.guess(0, p));
    }

    /** A LOOKER and a POSE, no BEAST. */
    private static HandBeasts noBeast() {
        HandBeasts x = Kit.withHands(Scenes.TWO_HANDS, 2);
        Kit.pose(x, NONE, 1, 0, 0);
        x.looker(1, 1, 1);
        Kit.row(x, 5, 77);
        x.at(5, 0);
        return x;
    }

    static void promise40GuessOfNoBeast() {
        Twins.answers(NONE, RefusalsOfLookersTest::noBeast, x -> x.guess(0, 0));
    }

    static void promise40GuessBadAheadOfNone() {
        Twins.bad(RefusalsOfLookersTest::noBeast, x -> x.guess(1, 0), x -> x.guess(0, 1), x -> x.guess(-1, 0), x -> x.guess(0, -1));
    }

    static void promise41AgreesOfALookerThatIsNone() {
        for (int l : Twins.outside(0, 1)) Twins.bad(SOME, x -> x.agrees(l));
        for (int l : Twins.outside(0, 7)) Twins.bad(FULL, x -> x.agrees(l));
        Twins.bad(BARE, x -> x.agrees(0));
    }

    static void promise42FitOfALookerThatIsNone() {
        for (int l : Twins.outside(0, 1)) Twins.bad(SOME, x -> x.fit(l));
        for (int l : Twins.outside(0, 7)) Twins.bad(FULL, x -> x.fit(l));
        Twins.bad(BARE, x -> x.fit(0));
    }

    static void promise43OddsOfAPoseThatIsNone() {
        for (int p : Twins.outside(0, 4)) Twins.bad(SOME, x -> x.odds(p, 0));
        for (int p : Twins.outside(0, 11)) Twins.bad(FULL, x -> x.odds(p, 0));
        Twins.bad(BARE, x -> x.odds(0, 0));
    }

    static void promise43OddsOfABeastThatIsNone() {
        for (int k : Twins.outside(0, 5)) Twins.bad(SOME, x -> x.odds(0, k));
    }

    static void promise43OddsOfNoCalls() {
        Twins.finds(Kit.NOUGHT, SOME, x -> x.odds(2, 0), x -> x.odds(3, 3), x -> x.odds(4, 5));
    }

    static void promise43OddsBadAheadOfNought() {
        for (int k : Twins.outside(0, 5)) Twins.bad(SOME, x -> x.odds(2, k), x -> x.odds(4, k));
    }

    // ---- 47 count(), 49 findings()

    static void promise47CountOfWhatIsNone() {
        for (int what : Twins.outside(0, 9)) Twins.bad(SOME, x -> x.count(what));
    }

    static void promise49FindingsThatAreNone() {
        for (int f : Twins.outside(1, 5)) Twins.bad(SOME, x -> x.findings(f));
    }
}

/** Promises 37 to 43: LOOKERS, CALLS and what they GUESS, at each bound. */
final class EdgesOfLookersTest {
    private static final int NONE = HandBeasts.NONE;

    private EdgesOfLookersTest() {
    }

    /** POSE 0 throws 5, 5 alone. */
    private static HandBeasts one() {
        HandBeasts x = Kit.withHands("h65", 0);
        Kit.pose(x, NONE, 1);
        return x;
    }

    /** POSE 0 (still) and 1 (MOVING) throw 5, 5; 5, 4; 5, 3. */
    private static HandBeasts stillAndMoving() {
        HandBeasts x = Kit.withHands("h65f022", 1);
        Kit.pose(x, NONE, 1, 0);
        Kit.pose(x, 0, 4, 0);
        return x;
    }

    // ---- 37 looker(), 38 weight()

    static void promise37LookersAre8AtMost() {
        HandBeasts x = new HandBeasts();
        for (int l = 0; l < 8; l++) {
            Kit.same("looker()", x.looker(l, 9 - l, 1), l);
            Kit.same("count(6)", x.count(6), l + 1);
        }
        Kit.refused(x, "a ninth", () -> x.looker(1, 1, 1), HandBeasts.FULL);
        for (int l = 0; l < 8; l++) Kit.tells(x, "weight()", x.weight(l, 1), 9 - l);
    }

    static void promise37WeightsOf0And9() {
        HandBeasts x = new HandBeasts();
        Kit.same("looker()", x.looker(0, 9, 0), 0);
        Kit.same("looker()", x.looker(9, 0, 9), 1);
        int[][] due = {{0, 9, 0}, {9, 0, 9}};
        for (int l = 0; l < 2; l++) {
            for (int what = 0; what < 3; what++) Kit.tells(x, "weight()", x.weight(l, what), due[l][what]);
        }
    }

    static void promise38EachWeight() {
        HandBeasts x = new HandBeasts();
        x.looker(7, 8, 6);
        Kit.tells(x, "e", x.weight(0, 0), 7);
        Kit.tells(x, "a", x.weight(0, 1), 8);
        Kit.tells(x, "d", x.weight(0, 2), 6);
    }

    // ---- 39 call()

    static void promise39CallsAre24AtMost() {
        HandBeasts x = one();
        Kit.beast(x, 0, 0, 5, 5);
        x.looker(1, 1, 1);
        for (int c = 0; c < 24; c++) {
            Kit.same("call()", x.call(0, 0, 0), c);
            Kit.same("count(7)", x.count(7), c + 1);
        }
        Kit.refused(x, "a 25th", () -> x.call(0, 0, 0), HandBeasts.FULL);
        Kit.both(x, "agrees()", x.agrees(0), 24, 24);
        Kit.same("odds()", x.odds(0, 0), 24);
    }

    static void promise39CallsAre24AtMostOfAll() {
        HandBeasts x = Scenes.full();
        Kit.same("count(7)", x.count(7), 24);
        Kit.refused(x, "a 25th", () -> x.call(7, 11, 5), HandBeasts.FULL);
        Kit.same("back(11)", x.back(11), 1);
        Kit.same("two less", x.call(7, 10, 5), 22);
        Kit.same("one less", x.call(0, 0, 0), 23);
        Kit.refused(x, "a 25th", () -> x.call(0, 0, 0), HandBeasts.FULL);
    }

    static void promise39CallOfTheLastOfAll() {
        HandBeasts x = Scenes.full();
        x.back(11);
        Kit.pose(x, NONE, 1, 0, 0);
        Kit.same("call()", x.call(7, 11, 5), 22);
        Kit.same("odds()", x.odds(11, 5), 1);
        Kit.same("upper()", x.upper(), 1);
    }

    static void promise39SameCallAgain() {
        HandBeasts x = Scenes.some();
        Kit.same("call()", x.call(0, 0, 0), 3);
        Kit.same("odds()", x.odds(0, 0), 3);
        Kit.same("upper()", x.upper(), 2);
        Kit.same("lower()", x.lower(), 3);
    }

    // ---- 40 guess()

    private static void guess(HandBeasts x, int e, int a, int d, int p, int k, int sum) {
        int l = x.looker(e, a, d);
        Kit.both(x, "guess() by " + e + ", " + a + ", " + d, x.guess(l, p), k, sum);
    }

    static void promise40GuessIsTheFirstOfAlikeOnes() {
        HandBeasts x = one();
        Kit.beast(x, 4, 0, 5, 5);
        Kit.beast(x, 2, 0, 5, 5);
        Kit.beast(x, 5, 0, 5, 5);
        guess(x, 1, 1, 1, 0, 2, 0);
        guess(x, 0, 0, 0, 0, 2, 0);
    }

    static void promise40GuessIsTheLeast() {
        HandBeasts x = one();
        Kit.beast(x, 0, 0, 5, 5, 0, 0);
        Kit.beast(x, 5, 0, 5, 5);
        guess(x, 1, 1, 1, 0, 5, 0);
        guess(x, 0, 9, 0, 0, 0, 0);
    }

    static void promise40GuessOfTheOnlyBeast() {
        for (int k = 0; k < 6; k++) {
            HandBeasts x = one();
            Kit.beast(x, k, 0, 0, 0, 1, 1);
            guess(x, 9, 9, 9, 0, k, 9 * 2 + 9);
        }
    }

    static void promise40EIsByMissed() {
        HandBeasts x = one();
        Kit.beast(x, 0, 0, 0, 0, 1, 1, 2, 2);
        guess(x, 9, 0, 0, 0, 0, 27);
    }

    static void promise40AIsByOver() {
        HandBeasts x = stillAndMoving();
        Kit.beast(x, 0, 0, 5, 5);
        guess(x, 0, 9, 0, 0, 0, 18);
    }

    static void promise40DIsIfOneMovesTheOtherOneNot() {
        HandBeasts x = stillAndMoving();
        Kit.beast(x, 0, 0, 5, 5, 5, 4, 5, 3);
        guess(x, 9, 9, 7, 0, 0, 0);
        guess(x, 9, 9, 7, 1, 0, 7);
        HandBeasts y = stillAndMoving();
        Kit.beast(y, 0, 1, 5, 5, 5, 4, 5, 3);
        guess(y, 9, 9, 7, 0, 0, 7);
        guess(y, 9, 9, 7, 1, 0, 0);
    }

    static void promise40SumOfTheMost() {
        HandBeasts x = one();
        Kit.row(x, 3, 4095, 4095, 4095, 4095, 4095, 4095 - 32, 4095, 4095, 4095, 4095);
        x.row(4, 10);
        x.beast(0, 3, 4, 1);
        guess(x, 9, 9, 9, 0, 0, 9 * 119 + 9 + 9);
    }

    static void promise40HelpedDoesNotMove() {
        HandBeasts x = stillAndMoving();
        Kit.beast(x, 0, 0, 5, 5, 5, 4, 5, 3);
        Kit.shadow(x, 0);
        x.help(1, 0);
        guess(x, 9, 9, 7, 1, 0, 0);
    }

    static void promise40GuessOfNoBeast() {
        HandBeasts x = stillAndMoving();
        x.looker(1, 1, 1);
        Kit.tells(x, "about()", x.about(1, 0), 4);
        Kit.same("guess()", x.guess(0, 0), NONE);
        Kit.same("asked()", x.asked(), 4);
    }

    // ---- 41 agrees()

    static void promise41AgreesOfNoCalls() {
        HandBeasts x = Scenes.some();
        x.looker(1, 1, 1);
        Kit.both(x, "agrees()", x.agrees(2), 0, 0);
    }

    static void promise41AgreesOfHisOwnCalls() {
        HandBeasts x = one();
        Kit.beast(x, 0, 0, 5, 5);
        Kit.beast(x, 1, 0, 0, 0);
        x.looker(1, 1, 1);
        x.looker(1, 1, 1);
        x.call(0, 0, 0);
        x.call(0, 0, 1);
        x.call(0, 0, 0);
        x.call(1, 0, 1);
        Kit.both(x, "agrees(0)", x.agrees(0), 2, 3);
        Kit.both(x, "agrees(1)", x.agrees(1), 0, 1);
    }

    static void promise41AgreesByBeastsAndLampNow() {
        HandBeasts x = one();
        Kit.beast(x, 0, 0, 5, 5);
        Kit.beast(x, 1, 0, 6, 5);
        x.looker(1, 1, 1);
        x.call(0, 0, 1);
        Kit.both(x, "agrees()", x.agrees(0), 0, 1);
        x.lamp(1, 1, 0);
        Kit.both(x, "agrees() by another LAMP", x.agrees(0), 1, 1);
        Kit.beast(x, 0, 0, 6, 5);
        Kit.both(x, "agrees() by another BEAST", x.agrees(0), 0, 1);
    }

    // ---- 42 fit()

    static void promise42FitOfNoCalls() {
        HandBeasts x = Scenes.some();
        x.looker(1, 1, 1);
        Kit.both(x, "fit()", x.fit(2), 0, 0);
    }

    static void promise42FitIsTheFirst() {
        HandBeasts x = one();
        Kit.beast(x, 0, 0, 5, 5);
        Kit.beast(x, 1, 0, 0, 0);
        x.looker(9, 9, 9);
        x.call(0, 0, 0);
        Kit.both(x, "fit() of what all fit", x.fit(0), 0, 1);
        x.looker(9, 9, 9);
        x.call(1, 0, 1);
        Kit.both(x, "fit() of what none fit", x.fit(1), 0, 0);
    }

    static void promise42FitIsTheFirstByD() {
        // BEAST 1 is like BEAST 0, but does not move: just d tells them apart
        HandBeasts x = one();
        Kit.beast(x, 0, 1, 5, 5);
        Kit.beast(x, 1, 0, 5, 5);
        x.looker(9, 9, 9);
        x.call(0, 0, 1);
        Kit.both(x, "fit()", x.fit(0), 1, 1);
    }

    static void promise42FitIsTheFirstByA() {
        // BEAST 0: 5, 5 is OVER; BEAST 1: none, but one is MISSED
        HandBeasts x = one();
        Kit.beast(x, 0, 0);
        Kit.beast(x, 1, 0, 5, 5, 0, 0);
        x.looker(9, 9, 9);
        x.call(0, 0, 1);
        Kit.both(x, "fit()", x.fit(0), 10, 1);
    }

    static void promise42FitIsTheFirstByE() {
        // BEAST 0: one MISSED; BEAST 1: 5, 5 is OVER
        HandBeasts x = one();
        Kit.beast(x, 0, 0, 5, 5, 0, 0);
        Kit.beast(x, 1, 0);
        x.looker(9, 9, 9);
        x.call(0, 0, 1);
        Kit.both(x, "fit()", x.fit(0), 100, 1);
    }

    /** No HANDS: POSES 0 and 1 throw their CARDS alone, each told by x, y. */
    private static HandBeasts cards(int[] first, int[] second) {
        HandBeasts x = new HandBeasts();
        for (int p = 0; p < 2; p++) {
            Kit.pose(x, NONE, 1);
            Kit.shadow(x, 0, p == 0 ? first : second);
            x.help(p, 0);
        }
        x.looker(9, 9, 9);
        return x;
    }

    private static int[] cells(int... xy) {
        return xy;
    }

    /** A BEAST of which nothing can be OVER. */
    private static void neverOver(HandBeasts x, int k, int moves, int... must) {
        Kit.shadow(x, 3, must);
        Kit.row(x, 4, 4095, 4095, 4095, 4095, 4095, 4095, 4095, 4095, 4095, 4095);
        Kit.same("beast()", x.beast(k, 3, 4, moves), must.length / 2);
    }

    private static void fits(HandBeasts x, int firstNamed, int secondNamed, int fit) {
        x.call(0, 0, firstNamed);
        x.call(0, 1, secondNamed);
        Kit.both(x, "fit()", x.fit(0), fit, 2);
    }

    static void promise42FitOfE2A1() {
        // POSE 0: e by a, BEAST 1 if a < e; POSE 1: e by 2 a, BEAST 0 if e <= 2 a
        HandBeasts x = cards(cells(5, 5), cells(5, 5, 6, 5));
        neverOver(x, 0, 0, 0, 0);
        Kit.beast(x, 1, 0);
        fits(x, 1, 0, 210);
    }

    static void promise42FitOfE1A2() {
        // POSE 0: a by e, BEAST 1 if e < a; POSE 1: a by 2 e, BEAST 0 if a <= 2 e
        HandBeasts x = cards(cells(0, 0), cells(5, 5));
        Kit.beast(x, 0, 0);
        neverOver(x, 1, 0, 0, 0, 1, 0);
        fits(x, 1, 0, 120);
    }

    static void promise42FitOfE1D2() {
        // POSE 0: d by e, BEAST 1 if e < d; POSE 1: d by 2 e, BEAST 0 if d <= 2 e
        HandBeasts x = cards(cells(0, 0), cells(5, 5));
        neverOver(x, 0, 1);
        neverOver(x, 1, 0, 0, 0, 1, 0);
        fits(x, 1, 0, 102);
    }

    static void promise42FitOfE2D1() {
        // POSE 0: e by d by e, BEAST 1 if d < e; POSE 1: e by d by none, BEAST 2 if 0 < d and 0 < e
        HandBeasts x = cards(cells(5, 5), cells(1, 0));
        neverOver(x, 0, 0, 0, 0);
        neverOver(x, 1, 1);
        neverOver(x, 2, 0, 1, 0);
        fits(x, 1, 2, 201);
    }

    static void promise42FitOfA2D1() {
        // the same with a for e: of BEAST 0 each CELL is OVER, of BEAST 2 all but 1, 0
        HandBeasts x = cards(cells(5, 5), cells(1, 0));
        Kit.beast(x, 0, 0);
        neverOver(x, 1, 1);
        Kit.shadow(x, 3);
        Kit.shadow(x, 4, 1, 0);
        x.beast(2, 3, 4, 0);
        fits(x, 1, 2, 21);
    }

    static void promise42FitOfA1D2() {
        // POSE 0: d by a, BEAST 1 if a < d; POSE 1: d by 2 a, BEAST 0 if d <= 2 a
        HandBeasts x = cards(cells(5, 5), cells(5, 5, 6, 5));
        neverOver(x, 0, 1);
        Kit.beast(x, 1, 0);
        fits(x, 1, 0, 12);
    }

    static void promise42FitIsNeverOf3() {
        // POSE 0: e by 2 a, BEAST 1 if 2 a < e; POSE 1: e by 3 a, BEAST 0 if e <= 3 a: this wants 3 and 1
        HandBeasts x = cards(cells(5, 5, 6, 5), cells(5, 5, 6, 5, 7, 5));
        neverOver(x, 0, 0, 0, 0);
        Kit.beast(x, 1, 0);
        x.call(0, 0, 1);
        x.call(0, 1, 0);
        Kit.both(x, "fit()", x.fit(0), 0, 1);
    }

    static void promise42FitLeavesTheWeights() {
        HandBeasts x = Scenes.some();
        x.fit(0);
        x.fit(1);
        int[][] due = {{1, 1, 1}, {2, 0, 5}};
        for (int l = 0; l < 2; l++) {
            for (int what = 0; what < 3; what++) Kit.tells(x, "weight()", x.weight(l, what), due[l][what]);
        }
    }

    // ---- 43 odds()

    static void promise43OddsOfAll() {
        HandBeasts x = Scenes.some();
        Kit.same("odds(1, 3)", x.odds(1, 3), 1);
        Kit.same("upper()", x.upper(), 1);
        Kit.same("lower()", x.lower(), 1);
    }

    static void promise43OddsOfNone() {
        HandBeasts x = Scenes.some();
        Kit.same("odds(0, 5), of a BEAST that is missing", x.odds(0, 5), 2);
        Kit.same("upper()", x.upper(), 0);
        Kit.same("lower()", x.lower(), 1);
    }

    static void promise43OddsInLowestTerms() {
        HandBeasts x = one();
        Kit.beast(x, 0, 0, 5, 5);
        Kit.beast(x, 1, 0, 5, 5);
        x.looker(1, 1, 1);
        for (int c = 0; c < 24; c++) {
            x.call(0, 0, c < 9 ? 0 : 1);
        }
        Kit.same("odds()", x.odds(0, 0), 24);
        Kit.same("upper()", x.upper(), 3);
        Kit.same("lower()", x.lower(), 8);
        Kit.same("odds()", x.odds(0, 1), 24);
        Kit.same("upper()", x.upper(), 5);
        Kit.same("lower()", x.lower(), 8);
    }

    static void promise43OddsOfNoCallsLeaveTheFraction() {
        HandBeasts x = Scenes.some();
        x.odds(0, 3);
        Kit.finds(x, "odds(2, 0)", () -> x.odds(2, 0), Kit.NOUGHT);
        Kit.same("upper()", x.upper(), 1);
        Kit.same("lower()", x.lower(), 2);
    }

    static void promise43OddsOfAllLookersCalls() {
        HandBeasts x = Scenes.full();
        // CALLS 0 and 12 are of POSE 0, both of BEAST 0, by LOOKERS 0 and 4
        Kit.same("odds(0, 0)", x.odds(0, 0), 2);
        Kit.same("upper()", x.upper(), 1);
        Kit.same("lower()", x.lower(), 1);
    }
}

/** Promises 37 to 43: LOOKERS, their CALLS, what they GUESS. */
final class LookersTest {
    private static final int NONE = HandBeasts.NONE;

    private LookersTest() {
    }

    /**
     * POSE 0 (still) and 1 (MOVING) are 5, 5; 5, 4; 5, 3. BEAST 1: none MISSED, two OVER. BEAST 4: four MISSED,
     * none OVER; it moves. Of BEAST 1 and 4 it is 2 a (and d) by 4 e (and d).
     */
    private static HandBeasts scene() {
        HandBeasts x = Kit.withHands("h65f022", 1);
        Kit.pose(x, NONE, 1, 0);
        Kit.pose(x, 0, 4, 0);
        Kit.beast(x, 1, 0, 5, 5);
        Kit.beast(x, 4, 1, 5, 5, 5, 4, 5, 3, 0, 0, 1, 1, 2, 2, 3, 3);
        return x;
    }

    static void promise37Looker() {
        HandBeasts x = new HandBeasts();
        for (int l = 0; l < 8; l++) Kit.same("looker()", x.looker(l, 9, 0), l);
        Kit.same("count(6)", x.count(6), 8);
        Kit.refused(x, "a ninth LOOKER", () -> x.looker(1, 1, 1), HandBeasts.FULL);
        Kit.bad(x, "a ninth LOOKER of none", () -> x.looker(1, 1, 10));
    }

    static void promise38Weight() {
        HandBeasts x = new HandBeasts();
        x.looker(0, 9, 3);
        x.looker(5, 6, 7);
        int[][] due = {{0, 9, 3}, {5, 6, 7}};
        for (int l = 0; l < 2; l++) {
            for (int what = 0; what < 3; what++) Kit.tells(x, "weight(" + l + ", " + what + ")", x.weight(l, what), due[l][what]);
        }
    }

    static void promise39Call() {
        HandBeasts x = scene();
        x.looker(1, 1, 1);
        x.looker(2, 2, 2);
        Kit.finds(x, "call(0, 0, 0)", () -> x.call(0, 0, 0), Kit.NOTHING);
        for (int c = 0; c < 24; c++) Kit.same("call()", x.call(c % 2, c / 2 % 2, c % 3 == 0 ? 4 : 1), c);
        Kit.same("count(7)", x.count(7), 24);
        Kit.finds(x, "NOTHING ahead of FULL", () -> x.call(0, 0, 5), Kit.NOTHING);
        Kit.refused(x, "a 25th CALL", () -> x.call(0, 0, 1), HandBeasts.FULL);
        Kit.bad(x, "a 25th CALL of no LOOKER", () -> x.call(2, 0, 1));
    }

    private static void guesses(HandBeasts x, int e, int a, int d, int p, int k, int sum) {
        int l = x.looker(e, a, d);
        Kit.both(x, "guess of weights " + e + ", " + a + ", " + d + " of POSE " + p, x.guess(l, p), k, sum);
    }

    static void promise40Guess() {
        HandBeasts x = scene();
        guesses(x, 1, 1, 0, 0, 1, 2);
        guesses(x, 0, 1, 0, 0, 4, 0);
        guesses(x, 1, 3, 0, 0, 4, 4);
        guesses(x, 1, 2, 0, 0, 1, 4);
        guesses(x, 0, 1, 9, 0, 1, 2);
        guesses(x, 9, 1, 9, 1, 1, 11);
        guesses(x, 2, 1, 7, 1, 4, 8);
        guesses(x, 0, 0, 0, 1, 1, 0);
        Kit.finds(x, "off() of a BEAST that is missing", () -> x.off(0, 0), Kit.NOTHING);
    }

    static void promise40GuessByWhatIsSeen() {
        HandBeasts x = scene();
        x.looker(1, 0, 1);
        x.looker(0, 0, 1);
        Kit.both(x, "by LAMP 1, 0, 0", x.guess(0, 0), 1, 0);
        x.lamp(1, 1, 0);
        Kit.both(x, "by LAMP 1, 1, 0", x.guess(0, 0), 1, 1);
        x.lamp(1, 0, 0);
        Kit.both(x, "a MOVING one", x.guess(1, 1), 4, 0);
        Kit.shadow(x, 0, 0, 0, 1, 1, 2, 2, 3, 3);
        x.help(1, 0);
        Kit.both(x, "a HELPED one does not move, with its CARD", x.guess(1, 1), 1, 0);
        x.looker(2, 1, 0);
        Kit.both(x, "with its CARD", x.guess(2, 1), 4, 0);
        Kit.both(x, "without one", x.guess(2, 0), 1, 2);
        x.strain(0);
        // the reading of this project: only a MOVING one moves
        Kit.pose(x, 0, 2, 0);
        Kit.both(x, "a STRAINED one does not move", x.guess(1, 2), 1, 0);
        Kit.hands(x, "h17f022", 1);
        Kit.pose(x, 0, 3, 0);
        Kit.both(x, "a BARRED one does not move", x.guess(1, 0), 1, 0);
    }

    static void promise41Agrees() {
        HandBeasts x = scene();
        x.looker(1, 1, 0);
        x.looker(0, 1, 0);
        x.looker(1, 1, 1);
        x.call(0, 0, 1);
        x.call(0, 0, 4);
        x.call(0, 1, 1);
        x.call(1, 1, 4);
        x.call(1, 0, 1);
        Kit.both(x, "LOOKER 0", x.agrees(0), 2, 3);
        Kit.both(x, "LOOKER 1", x.agrees(1), 1, 2);
        Kit.both(x, "LOOKER 2", x.agrees(2), 0, 0);
        Kit.beast(x, 0, 0, 5, 5, 5, 4, 5, 3);
        Kit.both(x, "LOOKER 0, with a BEAST more", x.agrees(0), 0, 3);
    }

    static void promise42Fit() {
        HandBeasts x = scene();
        for (int l = 0; l < 6; l++) x.looker(9, 9, 9);
        Kit.both(x, "no CALLS", x.fit(0), 0, 0);
        x.call(0, 0, 1);
        Kit.both(x, "the first of all that fit", x.fit(0), 0, 1);
        x.call(1, 0, 4);
        Kit.both(x, "by OVER", x.fit(1), 10, 1);
        x.call(2, 0, 1);
        x.call(2, 1, 4);
        Kit.both(x, "by what MOVES", x.fit(2), 1, 2);
        x.call(3, 0, 4);
        x.call(3, 0, 1);
        Kit.both(x, "one of two", x.fit(3), 0, 1);
        x.call(3, 0, 4);
        Kit.both(x, "two of three", x.fit(3), 10, 2);
        Kit.tells(x, "WEIGHTS stay", x.weight(3, 1), 9);
        // BEAST 0: three MISSED, one OVER; BEAST 1: two MISSED, three OVER (as both are, POSE 0 and 1)
        Kit.beast(x, 0, 0, 5, 5, 5, 4, 0, 0, 1, 1, 2, 2);
        Kit.beast(x, 1, 0, 0, 0, 1, 1);
        Kit.beast(x, 4, 1, 7, 0, 7, 1, 7, 2, 7, 3, 7, 4, 7, 5, 7, 6, 7, 7);
        x.call(4, 0, 1);
        Kit.both(x, "by MISSED alone", x.fit(4), 100, 1);
        x.call(5, 1, 4);
        Kit.both(x, "not MISSED, not OVER", x.fit(5), 1, 1);
    }

    /** POSE 0 is 5, 5; 5, 4; 5, 3, POSE 1 the same, but 6, 3 for 5, 3. */
    private static HandBeasts secondScene() {
        HandBeasts x = Kit.withHands("h65f022", 1);
        Kit.pose(x, NONE, 1, 0);
        Kit.pose(x, NONE, 1, 1);
        Kit.beast(x, 0, 0, 5, 5);
        x.looker(9, 9, 9);
        return x;
    }

    static void promise42FitUpToTwo() {
        HandBeasts x = secondScene();
        // of POSE 0 it is 2 a by 3 e, of POSE 1 it is 2 a by 4 e and a
        Kit.beast(x, 1, 0, 5, 5, 5, 4, 5, 3, 0, 0, 1, 1, 2, 2);
        x.call(0, 0, 1);
        x.call(0, 1, 0);
        Kit.both(x, "1 and 2", x.fit(0), 120, 2);
        // of this one it is as of POSE 0, but BEAST 2 is just like BEAST 1 and MOVES, too
        Kit.same("a MOVING one", Kit.pose(x, 0, 4, 0), 2);
        Kit.beast(x, 2, 1, 5, 5, 5, 4, 5, 3, 0, 0, 1, 1, 2, 2);
        x.call(0, 2, 2);
        Kit.both(x, "1 and 2 and d 1", x.fit(0), 121, 3);
        Kit.same("back()", x.back(2), 1);
        // of POSE 0 it is 2 a by 5 e: this wants 1 and 3
        Kit.beast(x, 1, 0, 5, 5, 5, 4, 5, 3, 0, 0, 1, 1, 2, 2, 3, 3, 4, 4);
        Kit.both(x, "never 3", x.fit(0), 0, 1);
        Kit.same("back()", x.back(1), 1);
        Kit.same("a MOVING one", Kit.pose(x, 0, 4, 0), 1);
        // of POSE 1 it is 3 e by 2 e by d
        Kit.beast(x, 0, 1, 5, 5, 5, 4, 5, 3, 0, 0, 1, 1, 2, 2);
        Kit.beast(x, 1, 1, 5, 5, 5, 4, 5, 3, 0, 0, 1, 1);
        Kit.beast(x, 2, 0, 5, 5, 5, 4, 5, 3);
        x.looker(9, 9, 9);
        x.call(1, 1, 1);
        Kit.both(x, "1 and d 2", x.fit(1), 102, 1);
    }

    static void promise43Odds() {
        HandBeasts x = scene();
        x.looker(1, 1, 1);
        x.looker(2, 2, 2);
        Kit.finds(x, "odds of no CALLS", () -> x.odds(0, 1), Kit.NOUGHT);
        for (int c = 0; c < 6; c++) x.call(c % 2, 0, c < 4 ? 1 : 4);
        x.call(0, 1, 4);
        odds(x, 0, 1, 6, 2, 3);
        odds(x, 0, 4, 6, 1, 3);
        odds(x, 0, 0, 6, 0, 1);
        odds(x, 1, 4, 1, 1, 1);
        odds(x, 1, 5, 1, 0, 1);
        x.call(0, 0, 4);
        odds(x, 0, 1, 7, 4, 7);
        Kit.pose(x, NONE, 1, 1);
        Kit.finds(x, "odds of no CALLS", () -> x.odds(2, 1), Kit.NOUGHT);
        Kit.bad(x, "BAD ahead of NOUGHT", () -> x.odds(2, 6));
        Kit.same("upper() stays", x.upper(), 4);
        Kit.same("lower() stays", x.lower(), 7);
    }

    private static void odds(HandBeasts x, int p, int k, int all, int upper, int lower) {
        Kit.same("odds(" + p + ", " + k + ")", x.odds(p, k), all);
        Kit.same("upper()", x.upper(), upper);
        Kit.same("lower()", x.lower(), lower);
    }
}

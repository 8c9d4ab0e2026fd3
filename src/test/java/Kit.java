import java.util.Arrays;

/** What the tests share: ways to fill TEXTS and ROWS in one line, and to look at a refused call from all sides. */
final class Kit {
    static final int NOTHING = 1, BEYOND = 2, UNLIKE = 3, NOUGHT = 4, SIZE = 5;

    interface Call {
        long answer();
    }

    /** A call of any object. */
    interface Act {
        long answer(HandBeasts x);
    }

    private Kit() {
    }

    static void same(String what, long got, long want) {
        if (got != want) throw new AssertionError(what + " answered " + got + ", due is " + want);
    }

    static void same(String what, String got, String want) {
        if (!got.equals(want)) throw new AssertionError(what + " is " + got + ", due is " + want);
    }

    /** A call that answers 1 and tells by asked(). */
    static void tells(HandBeasts x, String what, int answer, int told) {
        same(what, answer, 1);
        same(what + ", asked()", x.asked(), told);
    }

    /** A call that answers something of its own and tells more by asked(). */
    static void both(HandBeasts x, String what, int got, int want, int told) {
        same(what, got, want);
        same(what + ", asked()", x.asked(), told);
    }

    /** In few calls, as no object is promised to answer more than 512; Twins looks closer. */
    static String state(HandBeasts x) {
        return x.asked() + " " + x.upper() + " " + x.lower() + " " + x.digest();
    }

    /** finding(), and findings() of each FINDING. */
    static int[] found(HandBeasts x) {
        int[] found = new int[6];
        found[0] = x.finding();
        for (int f = 1; f <= 5; f++) found[f] = x.findings(f);
        return found;
    }

    /** What found() is due to be after a FINDING (0: none) more. */
    static int[] withOne(int[] found, int finding) {
        int[] due = found.clone();
        if (finding > 0) {
            due[0] = finding;
            due[finding]++;
        }
        return due;
    }

    /** Refused, or NONE: nothing is changed but for the FINDING (0: none). */
    static void answers(HandBeasts x, String what, Call call, int want, int finding) {
        String before = state(x);
        int[] due = withOne(found(x), finding);
        same(what, call.answer(), want);
        same("finding() and findings() after " + what, Arrays.toString(found(x)), Arrays.toString(due));
        same("the object after " + what, state(x), before);
    }

    static void refused(HandBeasts x, String what, Call call, int want) {
        answers(x, what, call, want, 0);
    }

    static void bad(HandBeasts x, String what, Call call) {
        answers(x, what, call, HandBeasts.BAD, 0);
    }

    static void finds(HandBeasts x, String what, Call call, int finding) {
        answers(x, what, call, HandBeasts.FINDING, finding);
    }

    static void text(HandBeasts x, int t, String signs) {
        same("text(" + t + ")", x.text(t, signs.length()), signs.length());
        for (int i = 0; i < signs.length(); i++) same("put()", x.put(t, i, signs.charAt(i)), 1032);
    }

    /** HANDS by TEXT 3, which is left as it is. */
    static void hands(HandBeasts x, String signs, int joints) {
        text(x, 3, signs);
        same("hands() of " + signs, x.hands(3), joints);
    }

    static HandBeasts withHands(String signs, int joints) {
        HandBeasts x = new HandBeasts();
        hands(x, signs, joints);
        return x;
    }

    static void row(HandBeasts x, int r, int... places) {
        same("row(" + r + ")", x.row(r, places.length), places.length);
        for (int i = 0; i < places.length; i++) same("lay()", x.lay(r, i, places[i]), 1);
    }

    static String rowOf(HandBeasts x, int r, int size) {
        StringBuilder s = new StringBuilder();
        for (int i = 0; i < size; i++) {
            same("at(" + r + ", " + i + ")", x.at(r, i), 1);
            if (i > 0) s.append(' ');
            s.append(x.asked());
        }
        same("at() behind the ROW", x.at(r, size), HandBeasts.FINDING);
        return s.toString();
    }

    /** A ROW holds just these places. */
    static void holds(HandBeasts x, String what, int r, int... places) {
        StringBuilder s = new StringBuilder();
        for (int i = 0; i < places.length; i++) s.append(i > 0 ? " " : "").append(places[i]);
        same("ROW " + r + " after " + what, rowOf(x, r, places.length), s.toString());
    }

    /** The ten numbers of a SHADOW of CELLS, each told by x, y. */
    static int[] lines(int... xy) {
        int[] lines = new int[10];
        for (int i = 0; i + 1 < xy.length; i += 2) lines[xy[i + 1]] |= 1 << xy[i];
        return lines;
    }

    /** A ROW becomes a SHADOW of CELLS, each told by x, y. */
    static void shadow(HandBeasts x, int r, int... xy) {
        row(x, r, lines(xy));
    }

    static void holdsShadow(HandBeasts x, String what, int r, int... xy) {
        holds(x, what, r, lines(xy));
    }

    /** A POSE by TURNS in ROW 5, which is left as it is. */
    static int pose(HandBeasts x, int mover, int kind, int... turns) {
        row(x, 5, turns);
        int p = x.pose(5, mover);
        same("asked() after pose()", x.asked(), kind);
        return p;
    }

    /** A BEAST whose MUST are CELLS told by x, y, and whose MAY are none; ROWS 3 and 4 are left as they are. */
    static void beast(HandBeasts x, int k, int moves, int... xy) {
        shadow(x, 3, xy);
        shadow(x, 4);
        same("beast()", x.beast(k, 3, 4, moves), xy.length / 2);
    }
}

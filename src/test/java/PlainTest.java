import java.util.Random;

/** Long runs of calls by chance (always the same), each answered alike by the program and by PlainBeasts. */
final class PlainTest {
    private static final int NONE = HandBeasts.NONE;
    private static final int[] ODD = {-1, -2, -8, -10, 6, 7, 8, 12, 13, 24, 40, 41, 80, 81, 99, 100, 120, 121, 127, 128,
        4095, 4096, 65536, Integer.MAX_VALUE, Integer.MAX_VALUE - 1, Integer.MIN_VALUE, Integer.MIN_VALUE + 1};

    /** No object is promised to answer more calls; one step asks for a hundred at most, the end of a run for ten. */
    private static final int CALLS = 512, STEP = 100, END = 10;

    private final Random chance;
    private final HandBeasts x = new HandBeasts();
    private final PlainBeasts y = new PlainBeasts();
    private final StringBuilder run = new StringBuilder();
    private int left = CALLS;
    /** How many TURNS the next HANDS may have, about. */
    private final int most;

    private PlainTest(long seed, int most) {
        chance = new Random(seed);
        this.most = most;
    }

    static void runsOfFewTurns() {
        for (int seed = 1; seed <= 3000; seed++) new PlainTest(seed, 60).go();
    }

    static void runsOfSomeTurns() {
        for (int seed = 10001; seed <= 10300; seed++) new PlainTest(seed, 700).go();
    }

    static void runsOfManyTurns() {
        for (int seed = 20001; seed <= 20040; seed++) new PlainTest(seed, 20000).go();
    }

    /** As many TURNS as may be, fewer by a little, more by a little. */
    static void runsAboutTheMostTurns() {
        String[] all = {"h65f0212121f4212121", "h63f0121212h68f4121212", "h65f022h20f4222222f222", "h65f0121212f4212122",
            "h20f3212121h65f4111111f622", "h65f0222222f422f222f622"};
        for (int n = 0; n < 2 * all.length; n++) {
            PlainTest test = new PlainTest(4001 + n, 60);
            test.tellText(0, all[n / 2]);
            test.same("hands(0)", test.x.hands(0), test.y.hands(0));
            for (int i = 0; i < 4; i++) test.pose();
            for (int i = 0; i < 4; i++) test.beasts();
            test.same("many()", test.x.many(), test.y.many());
            while (test.left > STEP + END) test.search();
            test.same("strain(4)", test.x.strain(4), test.y.strain(4));
            test.same("many()", test.x.many(), test.y.many());
            test.end();
        }
    }

    static void runsOfFaults() {
        for (int seed = 30001; seed <= 31800; seed++) {
            PlainTest test = new PlainTest(seed, 20000);
            for (int t = 0; test.left > STEP + END; t = (t + 1) % 4) {
                test.tellText(t, test.withFaults(test.handsText()));
                test.same("fault(" + t + ")", test.x.fault(t), test.y.fault(t));
                test.same("hands(" + t + ")", test.x.hands(t), test.y.hands(t));
            }
            test.end();
        }
    }

    private void go() {
        hands();
        while (left > STEP + END) step();
        end();
    }

    /** One call, looked at closely. */
    private void same(String call, long got, long want) {
        quietly(call, got, want);
        left -= 3;
        if (x.asked() != y.asked()) fail(call + ": asked() is " + x.asked() + ", due is " + y.asked());
        if (x.finding() != y.finding()) fail(call + ": finding() is " + x.finding() + ", due is " + y.finding());
        if (x.digest() != y.digest()) fail(call + ": digest()");
    }

    /** One call of many that make ready for another. */
    private void quietly(String call, long got, long want) {
        left--;
        run.append(call).append(" = ").append(got).append('\n');
        if (got != want) fail(call + " answered " + got + ", due is " + want);
        if (left < 0) fail("too many calls");
    }

    private void sameFraction() {
        left -= 2;
        if (x.upper() != y.upper() || x.lower() != y.lower()) fail("upper(), lower()");
    }

    private void end() {
        sameFraction();
        for (int f = 0; f <= 6; f++) quietly("findings(" + f + ")", x.findings(f), y.findings(f));
    }

    private void fail(String what) {
        throw new AssertionError(what + ", the last of these calls:\n" + run);
    }

    private int below(int n) {
        return n <= 0 ? 0 : chance.nextInt(n);
    }

    private boolean rarely() {
        return chance.nextInt(25) == 0;
    }

    /** 0 to n - 1, rarely something odd. */
    private int number(int n) {
        if (rarely()) return chance.nextBoolean() ? n : ODD[chance.nextInt(ODD.length)];
        return below(n);
    }

    // ---- what is told ahead of the call itself

    private void tellText(int t, String signs) {
        quietly("text(" + t + ", " + signs.length() + ")", x.text(t, signs.length()), y.text(t, signs.length()));
        for (int i = 0; i < signs.length(); i++) {
            if (signs.charAt(i) == ' ') continue;
            quietly("put(" + t + ", " + i + ", " + (int) signs.charAt(i) + ")", x.put(t, i, signs.charAt(i)), y.put(t, i, signs.charAt(i)));
        }
    }

    private String handsText() {
        StringBuilder s = new StringBuilder();
        int turns = 1;
        int joints = 0;
        int fingers = 0;
        int hands = chance.nextInt(8) == 0 ? chance.nextInt(3) : 1 + chance.nextInt(2);
        int wrist = chance.nextInt(3) == 0 ? chance.nextInt(120) : 12 * (3 + chance.nextInt(4)) + 3 + chance.nextInt(6);
        for (int h = 0; h < hands; h++) {
            if (chance.nextInt(3) == 0) s.append(' ');
            s.append('h').append(chance.nextInt(6) == 0 ? "0" + wrist % 100 : "" + wrist);
            wrist = Math.floorMod(wrist + chance.nextInt(5) - 2 + 12 * (chance.nextInt(5) - 2), 120);
            for (int f = chance.nextInt(4); f > 0 && fingers < 6; f--) {
                if (chance.nextInt(3) == 0) s.append(' ');
                s.append('f').append(chance.nextInt(8));
                fingers++;
                for (int j = 1 + chance.nextInt(4) & 3; j > 0 && joints < 6; j--) {
                    int b = chance.nextInt(3);
                    int t = chance.nextInt(3);
                    if (turns * (b + t + 1) > most) break;
                    turns *= b + t + 1;
                    joints++;
                    s.append(b).append(t);
                }
            }
        }
        return s.length() > 80 ? "h5" : s.toString();
    }

    private String withFaults(String signs) {
        StringBuilder s = new StringBuilder(signs);
        for (int n = chance.nextInt(3); n > 0 && s.length() > 0; n--) {
            char c = "hf 0123456789x\u0000\u007f".charAt(chance.nextInt(16));
            int i = chance.nextInt(s.length());
            int how = chance.nextInt(3);
            if (how == 0) s.setCharAt(i, c);
            else if (how == 1 && s.length() < 80) s.insert(i, c);
            else s.deleteCharAt(i);
        }
        return s.toString();
    }

    private void hands() {
        int t = below(4);
        String signs = handsText();
        tellText(t, rarely() ? withFaults(signs) : signs);
        same("fault(" + t + ")", x.fault(t), y.fault(t));
        same("hands(" + t + ")", x.hands(t), y.hands(t));
    }

    private void tellRow(int r, int... places) {
        quietly("row(" + r + ", " + places.length + ")", x.row(r, places.length), y.row(r, places.length));
        for (int i = 0; i < places.length; i++) {
            if (places[i] != 0) quietly("lay(" + r + ", " + i + ", " + places[i] + ")", x.lay(r, i, places[i]), y.lay(r, i, places[i]));
        }
    }

    private void pose() {
        int r = below(6);
        int n = y.count(2);
        int[] turns = new int[n + (rarely() ? 1 : 0)];
        for (int j = 0; j < n; j++) turns[j] = y.turnByChance(j, chance) + (chance.nextInt(60) == 0 ? 1 : 0);
        tellRow(r, turns);
        int joint = chance.nextInt(2) == 0 ? NONE : number(n);
        same("pose(" + r + ", " + joint + ")", x.pose(r, joint), y.pose(r, joint));
    }

    /** A ROW becomes what a POSE throws, or is, or something by chance near the middle, or is left as it is. */
    private int shadowRow() {
        int r = below(6);
        switch (chance.nextInt(6)) {
            case 0:
                int[] lines = new int[rarely() ? 9 : 10];
                int bits = chance.nextInt(12);
                for (int i = 0; i < bits; i++) lines[chance.nextInt(lines.length)] |= 1 << chance.nextInt(12);
                if (rarely()) lines[chance.nextInt(9)] = rarely() ? -1 : 4096;
                tellRow(r, lines);
                break;
            case 1:
                int p = below(y.count(3));
                same("shape(" + p + ", " + r + ")", x.shape(p, r), y.shape(p, r));
                break;
            case 2:
            case 3:
                int q = below(y.count(3));
                lampByChance(4);
                same("thrown(" + q + ", " + r + ")", x.thrown(q, r), y.thrown(q, r));
                break;
            case 4:
                int k = below(6);
                same("never(" + k + ", " + r + ")", x.never(k, r), y.never(k, r));
                break;
            default:
                break;
        }
        return r;
    }

    private void lampByChance(int seldom) {
        if (chance.nextInt(seldom) != 0) return;
        int z = 1 + number(2);
        int dx = number(7) - 3;
        int dy = number(7) - 3;
        same("lamp(" + z + ", " + dx + ", " + dy + ")", x.lamp(z, dx, dy), y.lamp(z, dx, dy));
    }

    // ---- the calls

    private void step() {
        int of = chance.nextInt(100);
        if (of < 6) rows();
        else if (of < 7) hands();
        else if (of < 20) pose();
        else if (of < 36) poses();
        else if (of < 46) beasts();
        else if (of < 70) search();
        else if (of < 90) lookers();
        else others();
    }

    private void rows() {
        int r = number(6);
        int s = number(6);
        int i = number(12);
        int j = number(12);
        int n = number(rarely() ? 41 : 11);
        switch (chance.nextInt(8)) {
            case 0: same("row(" + r + ", " + n + ")", x.row(r, n), y.row(r, n)); break;
            case 1: same("lay(" + r + ", " + i + ", " + n + ")", x.lay(r, i, n), y.lay(r, i, n)); break;
            case 2: same("at(" + r + ", " + i + ")", x.at(r, i), y.at(r, i)); break;
            case 3: if (rarely()) same("tear(" + r + ")", x.tear(r), y.tear(r)); break;
            case 4:
                same("copy(" + r + ", " + i + ", " + s + ", " + j + ", " + n + ")", x.copy(r, i, s, j, n), y.copy(r, i, s, j, n));
                break;
            case 5: same("mean(" + r + ")", x.mean(r), y.mean(r)); break;
            case 6: same("text(" + r + ", " + n + ")", x.text(r, n), y.text(r, n)); break;
            default: same("put(" + r + ", " + i + ", " + n + ")", x.put(r, i, n * n), y.put(r, i, n * n)); break;
        }
    }

    private void poses() {
        int p = number(y.count(3));
        int j = number(y.count(2));
        int what = number(6);
        switch (chance.nextInt(9)) {
            case 0:
                int r = shadowRow();
                same("help(" + p + ", " + r + ")", x.help(p, r), y.help(p, r));
                break;
            case 1:
                int n = chance.nextInt(9) == 0 ? number(13) : y.count(3) - (chance.nextInt(3) == 0 ? 1 : 0);
                same("back(" + n + ")", x.back(n), y.back(n));
                break;
            case 2: same("about(" + p + ", " + what + ")", x.about(p, what), y.about(p, what)); break;
            case 3: same("turn(" + p + ", " + j + ")", x.turn(p, j), y.turn(p, j)); break;
            case 4: same("mark(" + p + ", " + what + ")", x.mark(p, what), y.mark(p, what)); break;
            case 5: same("shape(" + p + ", " + what + ")", x.shape(p, what), y.shape(p, what)); break;
            case 6: same("thrown(" + p + ", " + what + ")", x.thrown(p, what), y.thrown(p, what)); break;
            case 7:
                int v = chance.nextInt(3) == 0 ? 99 : number(9);
                same("strain(" + v + ")", x.strain(v), y.strain(v));
                break;
            default: lampByChance(1); break;
        }
    }

    private void beasts() {
        int k = number(6);
        int must = shadowRow();
        int may = chance.nextInt(4) == 0 ? number(6) : shadowRow();
        int moves = number(2);
        same("beast(" + k + ", " + must + ", " + may + ", " + moves + ")", x.beast(k, must, may, moves), y.beast(k, must, may, moves));
    }

    private void search() {
        int p = number(y.count(3));
        int q = number(y.count(3));
        int k = number(6);
        int r = number(6);
        switch (chance.nextInt(12)) {
            case 0: same("many()", x.many(), y.many()); break;
            case 1: same("nearest(" + k + ", " + r + ")", x.nearest(k, r), y.nearest(k, r)); break;
            case 2: same("never(" + k + ", " + r + ")", x.never(k, r), y.never(k, r)); break;
            case 3:
                int s = shadowRow();
                same("sets(" + s + ")", x.sets(s), y.sets(s));
                break;
            case 4: same("way(" + p + ", " + q + ")", x.way(p, q), y.way(p, q)); break;
            case 5:
            case 6:
                int d = chance.nextInt(3) == 0 ? number(121) : number(9);
                same("unseen(" + p + ", " + q + ", " + k + ", " + d + ")", x.unseen(p, q, k, d), y.unseen(p, q, k, d));
                break;
            case 7: same("where(" + p + ", " + k + ")", x.where(p, k), y.where(p, k)); break;
            case 8:
                int t = shadowRow();
                same("picture(" + t + ")", x.picture(t), y.picture(t));
                break;
            case 9:
                int set = number(1 << y.count(3)) & (y.count(3) > 7 ? ~number(4096) : -1);
                // else most sets have one that is not HELD
                for (int i = 0; i < y.count(3) && chance.nextInt(9) > 0; i++) {
                    if (!y.isHeldPose(i)) set &= ~(1 << i);
                }
                same("order(" + set + ", " + r + ")", x.order(set, r), y.order(set, r));
                break;
            case 10:
                int l = number(6);
                same("two(" + k + ", " + l + ")", x.two(k, l), y.two(k, l));
                break;
            default:
                int j = number(y.count(2));
                same("stiff(" + j + ", " + k + ")", x.stiff(j, k), y.stiff(j, k));
                break;
        }
    }

    private void lookers() {
        int l = chance.nextInt(4) == 0 ? number(y.count(6)) : 0;
        int p = number(y.count(3));
        int k = number(6);
        switch (y.count(6) == 0 ? 0 : chance.nextInt(10)) {
            case 0:
                int e = number(5);
                int a = number(5);
                int d = number(10);
                same("looker(" + e + ", " + a + ", " + d + ")", x.looker(e, a, d), y.looker(e, a, d));
                break;
            case 1: same("weight(" + l + ", " + k + ")", x.weight(l, k), y.weight(l, k)); break;
            case 2:
            case 3:
            case 4: same("call(" + l + ", " + p + ", " + k + ")", x.call(l, p, k), y.call(l, p, k)); break;
            case 5: same("guess(" + l + ", " + p + ")", x.guess(l, p), y.guess(l, p)); break;
            case 6: same("agrees(" + l + ")", x.agrees(l), y.agrees(l)); break;
            case 7:
            case 8: same("fit(" + l + ")", x.fit(l), y.fit(l)); break;
            default:
                same("odds(" + p + ", " + k + ")", x.odds(p, k), y.odds(p, k));
                sameFraction();
                break;
        }
    }

    private void others() {
        int a = number(6);
        int b = number(4);
        switch (chance.nextInt(6)) {
            case 0: same("finger(" + a + ", " + b + ")", x.finger(a, b), y.finger(a, b)); break;
            case 1: same("joint(" + a + ", " + b + ")", x.joint(a, b), y.joint(a, b)); break;
            case 2: same("fault(" + b + ")", x.fault(b), y.fault(b)); break;
            case 3:
                int what = number(10);
                same("count(" + what + ")", x.count(what), y.count(what));
                break;
            case 4: if (chance.nextInt(4) == 0) same("hands(" + a + ")", x.hands(a), y.hands(a)); break;
            default: lampByChance(1); break;
        }
    }
}

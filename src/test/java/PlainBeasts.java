import java.util.ArrayDeque;
import java.util.ArrayList;
import java.util.Arrays;
import java.util.HashMap;
import java.util.List;
import java.util.Map;
import java.util.Random;

/**
 * The document once more, written down with no thought of speed and nothing kept that can be found again: a second
 * opinion for PlainTest. It shares no code and no way of reckoning with the program.
 */
final class PlainBeasts {
    static final int BAD = -1, FULL = -2, FINDING = -3, STATE = -4, SPENT = -6, NONE = -9;

    private static final class Pose {
        int[] turns;
        int kind;
        int joint;
        int strain;
        boolean[][] card;
    }

    private static final class Beast {
        boolean[][] must;
        boolean[][] may;
        int moves;
    }

    private final int[][] rows = new int[6][];
    private final byte[][] texts = new byte[4][];
    private List<Integer> wrists = new ArrayList<>();
    private List<int[]> fingers = new ArrayList<>(); // hand, side, first joint, joints
    private List<int[]> joints = new ArrayList<>(); // finger, b, t
    private int strain = 99;
    private int[] lamp = {1, 0, 0};
    private final List<Pose> poses = new ArrayList<>();
    private final Beast[] beasts = new Beast[6];
    private final List<int[]> lookers = new ArrayList<>();
    private List<int[]> calls = new ArrayList<>();
    private int asked;
    private long upper;
    private long lower = 1;
    private int finding;
    private final int[] findings = new int[6];

    private int find(int f) {
        finding = f;
        findings[f]++;
        return FINDING;
    }

    private int tell(int v) {
        asked = v;
        return 1;
    }

    private static boolean in(int v, int from, int to) {
        return from <= v && v <= to;
    }

    // ---- rows and texts

    int row(int r, int n) {
        if (!in(r, 0, 5) || n > 40) return BAD;
        if (n < 0) return find(5);
        rows[r] = new int[n];
        return n;
    }

    int lay(int r, int i, int v) {
        if (!in(r, 0, 5)) return BAD;
        if (rows[r] == null) return find(1);
        if (!in(i, 0, rows[r].length - 1)) return find(2);
        asked = rows[r][i];
        rows[r][i] = v;
        return 1;
    }

    int at(int r, int i) {
        if (!in(r, 0, 5)) return BAD;
        if (rows[r] == null) return find(1);
        if (!in(i, 0, rows[r].length - 1)) return find(2);
        return tell(rows[r][i]);
    }

    int tear(int r) {
        if (!in(r, 0, 5)) return BAD;
        if (rows[r] == null) return find(1);
        rows[r] = null;
        return 1;
    }

    int copy(int r, int i, int to, int j, int n) {
        if (!in(r, 0, 5) || !in(to, 0, 5)) return BAD;
        if (n < 0) return find(5);
        if (rows[r] == null || rows[to] == null) return find(1);
        if (i < 0 || j < 0 || (long) i + n > rows[r].length || (long) j + n > rows[to].length) return find(2);
        int[] taken = Arrays.copyOfRange(rows[r], i, i + n);
        for (int k = 0; k < n; k++) rows[to][j + k] = taken[k];
        return 1;
    }

    int mean(int r) {
        if (!in(r, 0, 5)) return BAD;
        if (rows[r] == null) return find(1);
        if (rows[r].length == 0) return find(4);
        return tell((int) (Arrays.stream(rows[r]).asLongStream().sum() / rows[r].length));
    }

    int text(int t, int n) {
        if (!in(t, 0, 3) || n > 80) return BAD;
        if (n < 0) return find(5);
        texts[t] = new byte[n];
        Arrays.fill(texts[t], (byte) 32);
        return n;
    }

    int put(int t, int i, int v) {
        if (!in(t, 0, 3)) return BAD;
        if (texts[t] == null) return find(1);
        if (!in(i, 0, texts[t].length - 1)) return find(2);
        int was = texts[t][i];
        texts[t][i] = (byte) v;
        return was + 1000;
    }

    // ---- hands: a machine of states, sign by sign

    private final List<Integer> readWrists = new ArrayList<>();
    private final List<int[]> readFingers = new ArrayList<>();
    private final List<int[]> readJoints = new ArrayList<>();

    private int read(byte[] text) {
        readWrists.clear();
        readFingers.clear();
        readJoints.clear();
        String state = "between";
        int value = 0;
        int figures = 0;
        int b = 0;
        for (int i = 0; i <= text.length; i++) {
            boolean end = i == text.length;
            int c = end ? ' ' : text[i];
            int figure = c >= '0' && c <= '9' ? c - '0' : -1;
            if (state.equals("cell") && !(figure >= 0 && figures < 3)) {
                if (value > 119) return i;
                readWrists.add(value);
                state = "between";
            }
            if (state.equals("first") && figure < 0) state = "between";
            switch (state) {
                case "between":
                    if (end) return NONE;
                    if (c == 'h' && readWrists.size() < 2) state = "h";
                    else if (c == 'f' && !readWrists.isEmpty() && readFingers.size() < 6) state = "f";
                    else if (c != ' ') return i;
                    break;
                case "h":
                    if (figure < 0) return i;
                    value = figure;
                    figures = 1;
                    state = "cell";
                    break;
                case "cell":
                    value = 10 * value + figure;
                    figures++;
                    break;
                case "f":
                    if (figure < 0 || figure > 7) return i;
                    readFingers.add(new int[] {readWrists.size() - 1, figure, readJoints.size(), 0});
                    state = "first";
                    break;
                case "first":
                    if (figure > 2 || readJoints.size() == 6 || readFingers.get(readFingers.size() - 1)[3] == 3) return i;
                    b = figure;
                    state = "second";
                    break;
                default:
                    if (figure < 0 || figure > 2) return i;
                    readJoints.add(new int[] {readFingers.size() - 1, b, figure});
                    readFingers.get(readFingers.size() - 1)[3]++;
                    state = "first";
            }
        }
        return NONE;
    }

    int fault(int t) {
        if (!in(t, 0, 3)) return BAD;
        if (texts[t] == null) return find(1);
        return read(texts[t]);
    }

    int hands(int t) {
        if (!in(t, 0, 3)) return BAD;
        if (texts[t] == null) return find(1);
        if (read(texts[t]) != NONE) return STATE;
        wrists = new ArrayList<>(readWrists);
        fingers = new ArrayList<>(readFingers);
        joints = new ArrayList<>(readJoints);
        poses.clear();
        calls.clear();
        everyTurns = null;
        return joints.size();
    }

    int finger(int f, int what) {
        if (!in(f, 0, fingers.size() - 1) || !in(what, 0, 3)) return BAD;
        return tell(fingers.get(f)[what]);
    }

    int joint(int j, int what) {
        if (!in(j, 0, joints.size() - 1) || !in(what, 0, 2)) return BAD;
        return tell(joints.get(j)[what]);
    }

    int strain(int v) {
        if (!in(v, 0, 99)) return BAD;
        int was = strain;
        strain = v;
        return was;
    }

    private static int code(int[] l) {
        return 100 * l[0] + 10 * (l[1] + 3) + l[2] + 3;
    }

    int lamp(int z, int dx, int dy) {
        if (!in(z, 1, 2) || !in(dx, -3, 3) || !in(dy, -3, 3)) return BAD;
        int was = code(lamp);
        lamp = new int[] {z, dx, dy};
        return was;
    }

    // ---- what turns make: the places of all WRISTS and PIECES, as x, y


    private static int[] side(int s) {
        switch (s) {
            case 0: return new int[] {0, -1};
            case 1: return new int[] {1, -1};
            case 2: return new int[] {1, 0};
            case 3: return new int[] {1, 1};
            case 4: return new int[] {0, 1};
            case 5: return new int[] {-1, 1};
            case 6: return new int[] {-1, 0};
            default: return new int[] {-1, -1};
        }
    }

    /** Only a HAND's, or (NONE) both. */
    private List<int[]> parts(int[] turns, int only) {
        List<int[]> parts = new ArrayList<>();
        for (int h = 0; h < wrists.size(); h++) {
            if (only == NONE || only == h) parts.add(new int[] {wrists.get(h) % 12, wrists.get(h) / 12});
        }
        for (int[] f : fingers) {
            if (only != NONE && only != f[0]) continue;
            int wrist = wrists.get(f[0]);
            int to = f[1];
            int[] place = {wrist % 12 + side(to)[0], wrist / 12 + side(to)[1]};
            parts.add(place);
            for (int j = f[2]; j < f[2] + f[3]; j++) {
                to = Math.floorMod(to + turns[j], 8);
                place = new int[] {place[0] + side(to)[0], place[1] + side(to)[1]};
                parts.add(place);
            }
        }
        return parts;
    }

    private static int wrong(List<int[]> parts) {
        int n = 0;
        for (int i = 0; i < parts.size(); i++) {
            int[] p = parts.get(i);
            boolean bad = !in(p[0], 0, 11) || !in(p[1], 0, 9);
            for (int k = 0; k < i; k++) bad |= Arrays.equals(parts.get(k), p);
            if (bad) n++;
        }
        return n;
    }

    private static boolean[][] dark(List<int[]> parts) {
        boolean[][] dark = new boolean[10][12];
        for (int[] p : parts) {
            if (in(p[0], 0, 11) && in(p[1], 0, 9)) dark[p[1]][p[0]] = true;
        }
        return dark;
    }

    private static int load(int[] turns) {
        return Arrays.stream(turns).map(Math::abs).sum();
    }

    private static boolean[][] thrown(boolean[][] dark, int[] lamp) {
        boolean[][] shadow = new boolean[10][12];
        for (int y = 0; y < 10; y++) {
            for (int x = 0; x < 12; x++) {
                if (!dark[y][x]) continue;
                for (int a = 0; a < lamp[0]; a++) {
                    for (int b = 0; b < lamp[0]; b++) {
                        int sx = lamp[0] * x + lamp[1] + a;
                        int sy = lamp[0] * y + lamp[2] + b;
                        if (in(sx, 0, 11) && in(sy, 0, 9)) shadow[sy][sx] = true;
                    }
                }
            }
        }
        return shadow;
    }

    private static int cells(boolean[][] s) {
        int n = 0;
        for (boolean[] line : s) {
            for (boolean c : line) n += c ? 1 : 0;
        }
        return n;
    }

    private static int[] numbers(boolean[][] s) {
        int[] n = new int[10];
        for (int y = 0; y < 10; y++) {
            for (int x = 0; x < 12; x++) n[y] += s[y][x] ? 1 << x : 0;
        }
        return n;
    }

    private static boolean[][] shadowOf(int[] numbers) {
        boolean[][] s = new boolean[10][12];
        for (int y = 0; y < 10; y++) {
            for (int x = 0; x < 12; x++) s[y][x] = (numbers[y] >> x & 1) == 1;
        }
        return s;
    }

    private boolean held(int[] turns) {
        return wrong(parts(turns, NONE)) == 0 && load(turns) <= strain;
    }

    // ---- poses

    int pose(int r, int joint) {
        if (!in(r, 0, 5) || joint != NONE && !in(joint, 0, joints.size() - 1)) return BAD;
        if (rows[r] == null) return find(1);
        if (rows[r].length != joints.size()) return find(5);
        for (int j = 0; j < joints.size(); j++) {
            if (!in(rows[r][j], -joints.get(j)[1], joints.get(j)[2])) return find(3);
        }
        if (joint != NONE && rows[r][joint] + 1 > joints.get(joint)[2]) return BAD;
        if (poses.size() == 12) return FULL;
        Pose p = new Pose();
        p.turns = rows[r].clone();
        p.joint = joint;
        p.strain = strain;
        boolean barred = false;
        boolean strained = false;
        for (int[] turns : bothTurns(p)) {
            barred |= wrong(parts(turns, NONE)) > 0;
            strained |= load(turns) > strain;
        }
        p.kind = barred ? 3 : strained ? 2 : joint == NONE ? 1 : 4;
        poses.add(p);
        asked = p.kind;
        return poses.size() - 1;
    }

    /** For PlainTest: a turn that a JOINT can have. */
    int turnByChance(int j, Random chance) {
        int b = joints.get(j)[1];
        return chance.nextInt(b + joints.get(j)[2] + 1) - b;
    }

    private static List<int[]> bothTurns(Pose p) {
        List<int[]> both = new ArrayList<>();
        both.add(p.turns);
        if (p.joint != NONE) {
            int[] moved = p.turns.clone();
            moved[p.joint]++;
            both.add(moved);
        }
        return both;
    }

    private boolean isPose(int p) {
        return in(p, 0, poses.size() - 1);
    }

    boolean isHeldPose(int p) {
        int kind = poses.get(p).kind;
        return kind == 1 || kind == 4 || kind == 5;
    }

    private int shadowFault(int... of) {
        for (int r : of) {
            if (rows[r] == null) return 1;
        }
        for (int r : of) {
            if (rows[r].length != 10) return 5;
        }
        for (int r : of) {
            for (int v : rows[r]) {
                if (!in(v, 0, 4095)) return 3;
            }
        }
        return 0;
    }

    int help(int p, int r) {
        if (!isPose(p) || !in(r, 0, 5)) return BAD;
        if (!isHeldPose(p)) return find(3);
        if (shadowFault(r) != 0) return find(shadowFault(r));
        poses.get(p).card = shadowOf(rows[r]);
        poses.get(p).kind = 5;
        poses.get(p).joint = NONE;
        return cells(poses.get(p).card);
    }

    int back(int n) {
        if (!in(n, 0, poses.size())) return BAD;
        int went = poses.size() - n;
        while (poses.size() > n) poses.remove(poses.size() - 1);
        calls.removeIf(c -> c[1] >= n);
        return went;
    }

    int about(int p, int what) {
        if (!isPose(p) || !in(what, 0, 2)) return BAD;
        Pose of = poses.get(p);
        return tell(what == 0 ? of.kind : what == 1 ? load(of.turns) : of.joint);
    }

    int turn(int p, int j) {
        if (!isPose(p) || !in(j, 0, joints.size() - 1)) return BAD;
        return tell(poses.get(p).turns[j]);
    }

    int mark(int p, int kind) {
        if (!isPose(p) || !in(kind, 1, 5)) return BAD;
        Pose of = poses.get(p);
        if (kind == 1 ? !isHeldPose(p) : of.kind != kind) return find(3);
        int most = 0;
        switch (kind) {
            case 1: return cells(dark(parts(of.turns, NONE)));
            case 2:
                for (int[] turns : bothTurns(of)) most = Math.max(most, load(turns) - of.strain);
                return most;
            case 3:
                for (int[] turns : bothTurns(of)) most = Math.max(most, wrong(parts(turns, NONE)));
                return most;
            case 4: return of.joint;
            default: return cells(of.card);
        }
    }

    int shape(int p, int r) {
        if (!isPose(p) || !in(r, 0, 5)) return BAD;
        boolean[][] dark = dark(parts(poses.get(p).turns, NONE));
        rows[r] = numbers(dark);
        return cells(dark);
    }

    private boolean[][] shadowOfPose(int p, int[] by) {
        boolean[][] s = thrown(dark(parts(poses.get(p).turns, NONE)), by);
        if (poses.get(p).kind != 5) return s;
        for (int y = 0; y < 10; y++) {
            for (int x = 0; x < 12; x++) s[y][x] |= poses.get(p).card[y][x];
        }
        return s;
    }

    int thrown(int p, int r) {
        if (!isPose(p) || !in(r, 0, 5)) return BAD;
        rows[r] = numbers(shadowOfPose(p, lamp));
        return cells(shadowOfPose(p, lamp));
    }

    // ---- beasts

    int beast(int k, int must, int may, int moves) {
        if (!in(k, 0, 5) || !in(must, 0, 5) || !in(may, 0, 5) || !in(moves, 0, 1)) return BAD;
        if (shadowFault(must, may) != 0) return find(shadowFault(must, may));
        Beast b = new Beast();
        b.must = shadowOf(rows[must]);
        b.may = shadowOf(rows[may]);
        b.moves = moves;
        beasts[k] = b;
        return cells(b.must);
    }

    /** MISSED and OVER. */
    private int[] offs(boolean[][] s, int k) {
        int[] n = new int[2];
        for (int y = 0; y < 10; y++) {
            for (int x = 0; x < 12; x++) {
                if (beasts[k].must[y][x] && !s[y][x]) n[0]++;
                if (s[y][x] && !beasts[k].must[y][x] && !beasts[k].may[y][x]) n[1]++;
            }
        }
        return n;
    }

    private int off(boolean[][] s, int k) {
        return offs(s, k)[0] + offs(s, k)[1];
    }

    int off(int p, int k) {
        if (!isPose(p) || !in(k, 0, 5)) return BAD;
        if (beasts[k] == null) return find(1);
        boolean[][] s = shadowOfPose(p, lamp);
        asked = offs(s, k)[0];
        return off(s, k);
    }

    private List<int[]> everyTurns;

    private List<int[]> all() {
        if (everyTurns != null) return everyTurns;
        List<int[]> all = new ArrayList<>();
        all.add(new int[joints.size()]);
        for (int j = 0; j < joints.size(); j++) {
            List<int[]> more = new ArrayList<>();
            for (int[] turns : all) {
                for (int t = -joints.get(j)[1]; t <= joints.get(j)[2]; t++) {
                    int[] next = turns.clone();
                    next[j] = t;
                    more.add(next);
                }
            }
            all = more;
        }
        everyTurns = all;
        return all;
    }

    private boolean spent() {
        return all().size() > 4096;
    }

    private List<int[]> allHeld() {
        List<int[]> some = new ArrayList<>();
        for (int[] turns : all()) {
            if (held(turns)) some.add(turns);
        }
        return some;
    }

    private boolean[][] throwsOf(int[] turns, int[] by) {
        return thrown(dark(parts(turns, NONE)), by);
    }

    int many() {
        if (spent()) return SPENT;
        int barred = 0;
        for (int[] turns : all()) barred += wrong(parts(turns, NONE)) > 0 ? 1 : 0;
        int held = allHeld().size();
        asked = all().size() - barred - held;
        return held;
    }

    int nearest(int k, int r) {
        if (!in(k, 0, 5) || !in(r, 0, 5)) return BAD;
        if (beasts[k] == null) return find(1);
        if (spent()) return SPENT;
        int least = Integer.MAX_VALUE;
        for (int[] turns : allHeld()) {
            int so = off(throwsOf(turns, lamp), k);
            if (so < least) {
                least = so;
                rows[r] = turns.clone();
            }
        }
        return least == Integer.MAX_VALUE ? NONE : least;
    }

    int never(int k, int r) {
        if (!in(k, 0, 5) || !in(r, 0, 5)) return BAD;
        if (beasts[k] == null) return find(1);
        if (spent()) return SPENT;
        boolean[][] rest = shadowOf(numbers(beasts[k].must));
        for (int[] turns : allHeld()) {
            boolean[][] s = throwsOf(turns, lamp);
            for (int y = 0; y < 10; y++) {
                for (int x = 0; x < 12; x++) rest[y][x] &= !s[y][x];
            }
        }
        rows[r] = numbers(rest);
        return cells(rest);
    }

    int sets(int r) {
        if (!in(r, 0, 5)) return BAD;
        if (shadowFault(r) != 0) return find(shadowFault(r));
        if (spent()) return SPENT;
        List<int[]> some = new ArrayList<>();
        for (int[] turns : allHeld()) {
            if (Arrays.equals(numbers(throwsOf(turns, lamp)), rows[r])) some.add(turns);
        }
        asked = 0;
        for (int j = 0; j < joints.size(); j++) {
            int of = j;
            if (some.stream().map(t -> t[of]).distinct().count() <= 1) asked |= 1 << j;
        }
        return some.size();
    }

    private int far(int[] from, int[] to, int k, int d) {
        if (!held(from) || !held(to)) return NONE;
        Map<String, Integer> far = new HashMap<>();
        ArrayDeque<int[]> next = new ArrayDeque<>();
        far.put(Arrays.toString(from), 0);
        next.add(from);
        while (!next.isEmpty()) {
            int[] turns = next.remove();
            int so = far.get(Arrays.toString(turns));
            if (Arrays.equals(turns, to)) return so;
            for (int j = 0; j < turns.length; j++) {
                for (int s = -1; s <= 1; s += 2) {
                    int[] more = turns.clone();
                    more[j] += s;
                    if (!in(more[j], -joints.get(j)[1], joints.get(j)[2]) || !held(more)) continue;
                    if (far.containsKey(Arrays.toString(more))) continue;
                    if (k != NONE && !Arrays.equals(more, to) && off(throwsOf(more, lamp), k) <= d) continue;
                    far.put(Arrays.toString(more), so + 1);
                    next.add(more);
                }
            }
        }
        return NONE;
    }

    int way(int p, int q) {
        if (!isPose(p) || !isPose(q)) return BAD;
        if (!isHeldPose(p) || !isHeldPose(q)) return find(3);
        if (spent()) return SPENT;
        return far(poses.get(p).turns, poses.get(q).turns, NONE, 0);
    }

    int unseen(int p, int q, int k, int d) {
        if (!isPose(p) || !isPose(q) || !in(k, 0, 5) || !in(d, 0, 120)) return BAD;
        if (!isHeldPose(p) || !isHeldPose(q)) return find(3);
        if (beasts[k] == null) return find(1);
        if (spent()) return SPENT;
        return far(poses.get(p).turns, poses.get(q).turns, k, d);
    }

    private static List<int[]> allLamps() {
        List<int[]> all = new ArrayList<>();
        for (int z = 1; z <= 2; z++) {
            for (int dx = -3; dx <= 3; dx++) {
                for (int dy = -3; dy <= 3; dy++) all.add(new int[] {z, dx, dy});
            }
        }
        return all;
    }

    int where(int p, int k) {
        if (!isPose(p) || !in(k, 0, 5)) return BAD;
        if (beasts[k] == null) return find(1);
        int least = Integer.MAX_VALUE;
        for (int[] by : allLamps()) {
            int so = off(shadowOfPose(p, by), k);
            if (so < least) {
                least = so;
                asked = code(by);
            }
        }
        return least;
    }

    int picture(int r) {
        if (!in(r, 0, 5)) return BAD;
        if (shadowFault(r) != 0) return find(shadowFault(r));
        if (spent()) return SPENT;
        List<int[]> held = allHeld();
        for (int[] by : allLamps()) {
            int n = 0;
            for (int[] turns : held) n += Arrays.equals(numbers(throwsOf(turns, by)), rows[r]) ? 1 : 0;
            if (n > 0) {
                asked = n;
                return code(by);
            }
        }
        return NONE;
    }

    private int bestLength;
    private List<Integer> bestOrder;

    private void tryOrders(List<Integer> done, int set, int length, int[][] far) {
        if (set == 0 && length < bestLength) {
            bestLength = length;
            bestOrder = new ArrayList<>(done);
        }
        for (int p = 0; p < poses.size(); p++) {
            if ((set >> p & 1) == 0) continue;
            int more = done.isEmpty() ? 0 : far[done.get(done.size() - 1)][p];
            if (more < 0) continue;
            done.add(p);
            tryOrders(done, set & ~(1 << p), length + more, far);
            done.remove(done.size() - 1);
        }
    }

    int order(int set, int r) {
        if (set <= 0 || set >= 1 << poses.size() || Integer.bitCount(set) > 8 || !in(r, 0, 5)) return BAD;
        int[][] far = new int[12][12];
        for (int p = 0; p < poses.size(); p++) {
            if ((set >> p & 1) == 1 && !isHeldPose(p)) return find(3);
        }
        if (spent()) return SPENT;
        for (int p = 0; p < poses.size(); p++) {
            for (int q = 0; q < poses.size(); q++) {
                if ((set >> p & set >> q & 1) == 1) far[p][q] = far(poses.get(p).turns, poses.get(q).turns, NONE, 0);
                if (p == q && (set >> p & 1) == 1 && far[p][p] < 0) return NONE;
            }
        }
        bestLength = Integer.MAX_VALUE;
        tryOrders(new ArrayList<>(), set, 0, far);
        if (bestLength == Integer.MAX_VALUE) return NONE;
        rows[r] = bestOrder.stream().mapToInt(i -> i).toArray();
        return bestLength;
    }

    private int leastAlone(int hand, int k) {
        int least = Integer.MAX_VALUE;
        for (int[] turns : all()) {
            int own = 0;
            for (int j = 0; j < turns.length; j++) own += fingers.get(joints.get(j)[0])[0] == hand ? Math.abs(turns[j]) : 0;
            if (wrong(parts(turns, hand)) > 0 || own > strain) continue;
            least = Math.min(least, off(thrown(dark(parts(turns, hand)), lamp), k));
        }
        return least;
    }

    int two(int k, int l) {
        if (!in(k, 0, 5) || !in(l, 0, 5)) return BAD;
        if (wrists.size() != 2) return STATE;
        if (beasts[k] == null || beasts[l] == null) return find(1);
        if (spent()) return SPENT;
        if (leastAlone(0, k) == Integer.MAX_VALUE || leastAlone(1, k) == Integer.MAX_VALUE) return NONE;
        int straight = leastAlone(0, k) + leastAlone(1, l);
        int crossed = leastAlone(0, l) + leastAlone(1, k);
        asked = Math.min(straight, crossed);
        return straight <= crossed ? 0 : 1;
    }

    int stiff(int j, int k) {
        if (!in(j, 0, joints.size() - 1) || !in(k, 0, 5)) return BAD;
        if (beasts[k] == null) return find(1);
        if (spent()) return SPENT;
        int least = Integer.MAX_VALUE;
        int so = Integer.MAX_VALUE;
        for (int[] turns : allHeld()) {
            int off = off(throwsOf(turns, lamp), k);
            least = Math.min(least, off);
            if (turns[j] == 0) so = Math.min(so, off);
        }
        if (so == Integer.MAX_VALUE) return NONE;
        asked = so;
        return so - least;
    }

    // ---- lookers

    int looker(int e, int a, int d) {
        if (!in(e, 0, 9) || !in(a, 0, 9) || !in(d, 0, 9)) return BAD;
        if (lookers.size() == 8) return FULL;
        lookers.add(new int[] {e, a, d});
        return lookers.size() - 1;
    }

    private boolean isLooker(int l) {
        return in(l, 0, lookers.size() - 1);
    }

    int weight(int l, int what) {
        if (!isLooker(l) || !in(what, 0, 2)) return BAD;
        return tell(lookers.get(l)[what]);
    }

    int call(int l, int p, int k) {
        if (!isLooker(l) || !isPose(p) || !in(k, 0, 5)) return BAD;
        if (beasts[k] == null) return find(1);
        if (calls.size() == 24) return FULL;
        calls.add(new int[] {l, p, k});
        return calls.size() - 1;
    }

    /** The BEAST and the sum, or null. */
    private int[] guessBy(int e, int a, int d, int p) {
        int[] best = null;
        for (int k = 0; k < 6; k++) {
            if (beasts[k] == null) continue;
            int[] n = offs(shadowOfPose(p, lamp), k);
            boolean moves = poses.get(p).kind == 4;
            int sum = e * n[0] + a * n[1] + (moves != (beasts[k].moves == 1) ? d : 0);
            if (best == null || sum < best[1]) best = new int[] {k, sum};
        }
        return best;
    }

    private int[] guessOf(int l, int p) {
        return guessBy(lookers.get(l)[0], lookers.get(l)[1], lookers.get(l)[2], p);
    }

    int guess(int l, int p) {
        if (!isLooker(l) || !isPose(p)) return BAD;
        if (guessOf(l, p) == null) return NONE;
        asked = guessOf(l, p)[1];
        return guessOf(l, p)[0];
    }

    int agrees(int l) {
        if (!isLooker(l)) return BAD;
        int alike = 0;
        asked = 0;
        for (int[] c : calls) {
            if (c[0] != l) continue;
            asked++;
            if (guessOf(l, c[1])[0] == c[2]) alike++;
        }
        return alike;
    }

    int fit(int l) {
        if (!isLooker(l)) return BAD;
        int most = -1;
        int best = 0;
        for (int e = 0; e < 3; e++) {
            for (int a = 0; a < 3; a++) {
                for (int d = 0; d < 3; d++) {
                    int n = 0;
                    for (int[] c : calls) n += c[0] == l && guessBy(e, a, d, c[1])[0] == c[2] ? 1 : 0;
                    if (n > most) {
                        most = n;
                        best = 100 * e + 10 * a + d;
                    }
                }
            }
        }
        asked = most;
        return best;
    }

    int odds(int p, int k) {
        if (!isPose(p) || !in(k, 0, 5)) return BAD;
        int all = (int) calls.stream().filter(c -> c[1] == p).count();
        if (all == 0) return find(4);
        upper = calls.stream().filter(c -> c[1] == p && c[2] == k).count();
        lower = all;
        for (int n = all; n > 1; n--) {
            if (upper % n == 0 && lower % n == 0) {
                upper /= n;
                lower /= n;
            }
        }
        return all;
    }

    // ---- what is told

    int asked() {
        return asked;
    }

    long upper() {
        return upper;
    }

    long lower() {
        return lower;
    }

    int count(int what) {
        int n = 0;
        switch (what) {
            case 0: return wrists.size();
            case 1: return fingers.size();
            case 2: return joints.size();
            case 3: return poses.size();
            case 4:
                for (int p = 0; p < poses.size(); p++) n += isHeldPose(p) ? 1 : 0;
                return n;
            case 5:
                for (Beast b : beasts) n += b != null ? 1 : 0;
                return n;
            case 6: return lookers.size();
            case 7: return calls.size();
            case 8:
                for (int[] r : rows) n += r != null ? 1 : 0;
                return n;
            case 9:
                for (byte[] t : texts) n += t != null ? 1 : 0;
                return n;
            default: return BAD;
        }
    }

    int finding() {
        return finding;
    }

    int findings(int f) {
        return in(f, 1, 5) ? findings[f] : BAD;
    }

    long digest() {
        List<Integer> v = new ArrayList<>();
        for (int what = 0; what <= 9; what++) v.add(count(what));
        v.add(strain);
        v.add(code(lamp));
        v.addAll(wrists);
        for (int[] f : fingers) addAll(v, f);
        for (int[] j : joints) addAll(v, j);
        for (Pose p : poses) {
            addAll(v, new int[] {p.kind, load(p.turns), p.joint});
            addAll(v, p.turns);
        }
        for (Beast b : beasts) {
            if (b == null) {
                v.add(-1);
                continue;
            }
            addAll(v, numbers(b.must));
            addAll(v, numbers(b.may));
            v.add(b.moves);
        }
        for (int[] l : lookers) addAll(v, l);
        for (int[] c : calls) addAll(v, c);
        for (int[] r : rows) {
            v.add(r == null ? -1 : r.length);
            if (r != null) addAll(v, r);
        }
        for (byte[] t : texts) {
            v.add(t == null ? -1 : t.length);
            if (t == null) continue;
            for (byte b : t) v.add((int) b);
        }
        long h = 17;
        for (int n : v) h = 31 * h + n;
        return h;
    }

    private static void addAll(List<Integer> v, int[] more) {
        for (int n : more) v.add(n);
    }
}

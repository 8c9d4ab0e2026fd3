/**
 * Beasts of two hands: poses of hands, the shadows that a lamp throws of them, the beasts that are
 * wished for, and what lookers call them. Words in CAPITALS are the document's terms.
 */
public final class HandBeasts {
    public static final int BAD = -1, FULL = -2, FINDING = -3, STATE = -4, SPENT = -6, NONE = -9;

    private static final int NOTHING = 1, BEYOND = 2, UNLIKE = 3, NOUGHT = 4, SIZE = 5;
    private static final int HELD = 1, STRAINED = 2, BARRED = 3, MOVING = 4, HELPED = 5;

    private static final int WIDE = 12, LINES = 10, CELLS = WIDE * LINES, LINE_MOST = (1 << WIDE) - 1;
    private static final int HALF_LINES = 5, HALF = WIDE * HALF_LINES;
    private static final int ROWS = 6, ROW_MOST = 40, TEXTS = 4, TEXT_MOST = 80, BLANK = 32;
    private static final int HANDS = 2, FINGERS = 6, JOINTS = 6, FINGER_JOINTS = 3, TURN_MOST = 2;
    private static final int STRAIN_MOST = 99, SHIFT_MOST = 3, SHIFTS = 7, LAMPS = 2 * SHIFTS * SHIFTS;
    private static final int POSES = 12, BEASTS = 6, LOOKERS = 8, WEIGHTS = 3, WEIGHT_MOST = 9, CALLS = 24;
    private static final int TURNS_MOST = 4096, ORDER_MOST = 8, BOTH_HANDS = -1;

    private final Told told;
    private final Row[] rows;
    private final Row[] texts;
    private final Reader reader;
    private final Hands hands;
    private final Hands draft;
    private final Lamp light;
    private final Lamp otherLight;
    private int tension;
    private final Pose[] poses;
    private int poseNumber;
    private final Beast[] beasts;
    private final Lookers lookers;
    private final Reach reach;
    private final Ways ways;
    private final Cells seen;
    private final Cells wanted;
    private final Cells ever;

    public HandBeasts() {
        told = new Told();
        rows = new Row[ROWS];
        for (int r = 0; r < ROWS; r++) rows[r] = new Row(ROW_MOST);
        texts = new Row[TEXTS];
        for (int t = 0; t < TEXTS; t++) texts[t] = new Row(TEXT_MOST);
        reader = new Reader();
        hands = new Hands();
        draft = new Hands();
        light = new Lamp();
        otherLight = new Lamp();
        tension = STRAIN_MOST;
        poses = new Pose[POSES];
        for (int p = 0; p < POSES; p++) poses[p] = new Pose();
        beasts = new Beast[BEASTS];
        for (int k = 0; k < BEASTS; k++) beasts[k] = new Beast();
        lookers = new Lookers();
        reach = new Reach();
        ways = new Ways();
        seen = new Cells();
        wanted = new Cells();
        ever = new Cells();
    }

    // ---- 1 rows, texts, hands, lamps

    public int row(int r, int n) {
        if (!isRow(r) || n > ROW_MOST) return BAD;
        if (n < 0) return told.find(SIZE);
        rows[r].renew(n, 0);
        return n;
    }

    public int lay(int r, int i, int v) {
        if (!isRow(r)) return BAD;
        Row places = rows[r];
        if (!places.isThere()) return told.find(NOTHING);
        if (!places.holds(i)) return told.find(BEYOND);
        int before = places.get(i);
        places.set(i, v);
        return told.tell(before);
    }

    public int at(int r, int i) {
        if (!isRow(r)) return BAD;
        Row places = rows[r];
        if (!places.isThere()) return told.find(NOTHING);
        if (!places.holds(i)) return told.find(BEYOND);
        return told.tell(places.get(i));
    }

    public int tear(int r) {
        if (!isRow(r)) return BAD;
        if (!rows[r].isThere()) return told.find(NOTHING);
        rows[r].lose();
        return 1;
    }

    public int copy(int r, int i, int to, int j, int n) {
        if (!isRow(r) || !isRow(to)) return BAD;
        if (n < 0) return told.find(SIZE);
        if (!rows[r].isThere() || !rows[to].isThere()) return told.find(NOTHING);
        if (!rows[r].holdsFrom(i, n) || !rows[to].holdsFrom(j, n)) return told.find(BEYOND);
        rows[to].take(j, rows[r], i, n);
        return 1;
    }

    public int mean(int r) {
        if (!isRow(r)) return BAD;
        Row places = rows[r];
        if (!places.isThere()) return told.find(NOTHING);
        if (places.size < 1) return told.find(NOUGHT);
        return told.tell((int) (places.sum() / places.size));
    }

    public int text(int t, int n) {
        if (!isText(t) || n > TEXT_MOST) return BAD;
        if (n < 0) return told.find(SIZE);
        texts[t].renew(n, BLANK);
        return n;
    }

    public int put(int t, int i, int v) {
        if (!isText(t)) return BAD;
        Row bytes = texts[t];
        if (!bytes.isThere()) return told.find(NOTHING);
        if (!bytes.holds(i)) return told.find(BEYOND);
        int before = bytes.get(i);
        bytes.set(i, (byte) v);
        return before + 1000;
    }

    public int fault(int t) {
        if (!isText(t)) return BAD;
        if (!texts[t].isThere()) return told.find(NOTHING);
        return reader.read(texts[t], draft);
    }

    public int hands(int t) {
        if (!isText(t)) return BAD;
        if (!texts[t].isThere()) return told.find(NOTHING);
        if (reader.read(texts[t], draft) != NONE) return STATE;
        reader.read(texts[t], hands);
        dropPoses(0);
        reach.learn(hands);
        return hands.joints;
    }

    public int finger(int f, int what) {
        if (f < 0 || f >= hands.fingers) return BAD;
        switch (what) {
            case 0: return told.tell(hands.owner[f]);
            case 1: return told.tell(hands.side[f]);
            case 2: return told.tell(hands.first[f]);
            case 3: return told.tell(hands.length[f]);
            default: return BAD;
        }
    }

    public int joint(int j, int what) {
        if (!isJoint(j)) return BAD;
        switch (what) {
            case 0: return told.tell(hands.holder[j]);
            case 1: return told.tell(hands.behind[j]);
            case 2: return told.tell(hands.ahead[j]);
            default: return BAD;
        }
    }

    public int strain(int v) {
        if (v < 0 || v > STRAIN_MOST) return BAD;
        int before = tension;
        tension = v;
        return before;
    }

    public int lamp(int z, int dx, int dy) {
        if (z < 1 || z > 2 || !isShift(dx) || !isShift(dy)) return BAD;
        int before = light.code();
        light.become(z, dx, dy);
        return before;
    }

    // ---- 2 poses

    public int pose(int r, int joint) {
        if (!isRow(r) || (joint != NONE && !isJoint(joint))) return BAD;
        Row turns = rows[r];
        if (!turns.isThere()) return told.find(NOTHING);
        if (turns.size != hands.joints) return told.find(SIZE);
        if (!hands.canTurn(turns)) return told.find(UNLIKE);
        if (joint != NONE && turns.get(joint) >= hands.ahead[joint]) return BAD;
        if (poseNumber >= POSES) return FULL;
        Pose fresh = poses[poseNumber];
        fresh.begin(turns, joint);
        fresh.judge(hands, tension, seen);
        told.tell(fresh.kind);
        poseNumber++;
        return poseNumber - 1;
    }

    public int help(int p, int r) {
        if (!isPose(p) || !isRow(r)) return BAD;
        if (!poses[p].isHeld()) return told.find(UNLIKE);
        int finding = shadowFinding(rows[r], rows[r]);
        if (finding != 0) return told.find(finding);
        rows[r].showTo(poses[p].card);
        poses[p].kind = HELPED;
        poses[p].mover = NONE;
        return poses[p].card.number();
    }

    public int back(int n) {
        if (n < 0 || n > poseNumber) return BAD;
        int gone = poseNumber - n;
        dropPoses(n);
        return gone;
    }

    public int about(int p, int what) {
        if (!isPose(p)) return BAD;
        switch (what) {
            case 0: return told.tell(poses[p].kind);
            case 1: return told.tell(poses[p].load);
            case 2: return told.tell(poses[p].mover);
            default: return BAD;
        }
    }

    public int turn(int p, int j) {
        if (!isPose(p) || !isJoint(j)) return BAD;
        return told.tell(poses[p].turns[j]);
    }

    public int mark(int p, int kind) {
        if (!isPose(p) || kind < HELD || kind > HELPED) return BAD;
        Pose asked = poses[p];
        if (kind == HELD ? !asked.isHeld() : asked.kind != kind) return told.find(UNLIKE);
        switch (kind) {
            case HELD: return asked.dark.number();
            case STRAINED: return asked.above;
            case BARRED: return asked.wrong;
            case MOVING: return asked.mover;
            default: return asked.card.number();
        }
    }

    public int shape(int p, int r) {
        if (!isPose(p) || !isRow(r)) return BAD;
        rows[r].showCells(poses[p].dark);
        return poses[p].dark.number();
    }

    public int thrown(int p, int r) {
        if (!isPose(p) || !isRow(r)) return BAD;
        poses[p].shadow(light, seen);
        rows[r].showCells(seen);
        return seen.number();
    }

    // ---- 3 beasts, nearest poses, ways

    public int beast(int k, int must, int may, int moves) {
        if (!isBeast(k) || !isRow(must) || !isRow(may) || moves < 0 || moves > 1) return BAD;
        int finding = shadowFinding(rows[must], rows[may]);
        if (finding != 0) return told.find(finding);
        rows[must].showTo(beasts[k].must);
        rows[may].showTo(beasts[k].may);
        beasts[k].moves = moves;
        beasts[k].there = true;
        return beasts[k].must.number();
    }

    public int off(int p, int k) {
        if (!isPose(p) || !isBeast(k)) return BAD;
        if (!beasts[k].there) return told.find(NOTHING);
        poses[p].shadow(light, seen);
        told.tell(beasts[k].missed(seen.top, seen.low));
        return beasts[k].offOf(seen.top, seen.low);
    }

    public int many() {
        if (reach.spent) return SPENT;
        int held = 0;
        int strained = 0;
        for (int i = 0; i < reach.size; i++) {
            if (reach.isHeld(i, tension)) held++;
            else if (!reach.isBarred(i)) strained++;
        }
        told.tell(strained);
        return held;
    }

    public int nearest(int k, int r) {
        if (!isBeast(k) || !isRow(r)) return BAD;
        if (!beasts[k].there) return told.find(NOTHING);
        if (reach.spent) return SPENT;
        reach.shade(hands, light, BOTH_HANDS);
        int first = reach.nearestTurns(hands, beasts[k], tension, NONE);
        if (first == NONE) return NONE;
        rows[r].renew(hands.joints, 0);
        for (int j = 0; j < hands.joints; j++) rows[r].set(j, reach.turnAt(hands, first, j));
        return reach.offOf(beasts[k], first);
    }

    public int never(int k, int r) {
        if (!isBeast(k) || !isRow(r)) return BAD;
        if (!beasts[k].there) return told.find(NOTHING);
        if (reach.spent) return SPENT;
        reach.joinDark(tension, ever);
        light.throwCells(ever.top, ever.low, seen);
        wanted.become(beasts[k].must);
        wanted.leave(seen);
        rows[r].showCells(wanted);
        return wanted.number();
    }

    public int sets(int r) {
        if (!isRow(r)) return BAD;
        int finding = shadowFinding(rows[r], rows[r]);
        if (finding != 0) return told.find(finding);
        if (reach.spent) return SPENT;
        rows[r].showTo(wanted);
        reach.shade(hands, light, BOTH_HANDS);
        told.tell(reach.alikeJoints(hands, wanted, tension));
        return reach.numberThrowing(wanted, tension);
    }

    public int way(int p, int q) {
        if (!isPose(p) || !isPose(q)) return BAD;
        if (!poses[p].isHeld() || !poses[q].isHeld()) return told.find(UNLIKE);
        if (reach.spent) return SPENT;
        ways.openHeld(reach, tension);
        return ways.length(reach, hands, placeOf(p), placeOf(q));
    }

    public int unseen(int p, int q, int k, int d) {
        if (!isPose(p) || !isPose(q) || !isBeast(k) || d < 0 || d > CELLS) return BAD;
        if (!poses[p].isHeld() || !poses[q].isHeld()) return told.find(UNLIKE);
        if (!beasts[k].there) return told.find(NOTHING);
        if (reach.spent) return SPENT;
        reach.shade(hands, light, BOTH_HANDS);
        ways.openHeld(reach, tension);
        ways.closeSeen(reach, beasts[k], d, placeOf(p), placeOf(q));
        return ways.length(reach, hands, placeOf(p), placeOf(q));
    }

    public int where(int p, int k) {
        if (!isPose(p) || !isBeast(k)) return BAD;
        if (!beasts[k].there) return told.find(NOTHING);
        int least = NONE;
        int best = 0;
        for (int n = 0; n < LAMPS; n++) {
            otherLight.becomeNumber(n);
            poses[p].shadow(otherLight, seen);
            int so = beasts[k].offOf(seen.top, seen.low);
            if (least == NONE || so < least) {
                least = so;
                best = otherLight.code();
            }
        }
        told.tell(best);
        return least;
    }

    public int picture(int r) {
        if (!isRow(r)) return BAD;
        int finding = shadowFinding(rows[r], rows[r]);
        if (finding != 0) return told.find(finding);
        if (reach.spent) return SPENT;
        rows[r].showTo(wanted);
        reach.joinDark(tension, ever);
        for (int n = 0; n < LAMPS; n++) {
            otherLight.becomeNumber(n);
            int throwing = numberThrowingBy(otherLight);
            if (throwing > 0) {
                told.tell(throwing);
                return otherLight.code();
            }
        }
        return NONE;
    }

    public int order(int set, int r) {
        if (set < 1 || set >= 1 << poseNumber || Integer.bitCount(set) > ORDER_MOST || !isRow(r)) return BAD;
        for (int p = 0; p < poseNumber; p++) {
            if ((set >> p & 1) == 1 && !poses[p].isHeld()) return told.find(UNLIKE);
        }
        if (reach.spent) return SPENT;
        ways.beginOrder();
        for (int p = 0; p < poseNumber; p++) {
            if ((set >> p & 1) == 1) ways.addStop(p, placeOf(p));
        }
        int length = ways.orderStops(reach, hands, tension);
        if (length == NONE) return NONE;
        rows[r].renew(ways.stops, 0);
        for (int i = 0; i < ways.stops; i++) rows[r].set(i, ways.inOrder[i]);
        return length;
    }

    public int two(int k, int l) {
        if (!isBeast(k) || !isBeast(l)) return BAD;
        if (hands.wrists != HANDS) return STATE;
        if (!beasts[k].there || !beasts[l].there) return told.find(NOTHING);
        if (reach.spent) return SPENT;
        reach.combine(hands, 0);
        reach.shade(hands, light, 0);
        int straight = reach.leastOff(hands, beasts[k], tension, NONE);
        int crossed = reach.leastOff(hands, beasts[l], tension, NONE);
        reach.combine(hands, 1);
        reach.shade(hands, light, 1);
        int straightToo = reach.leastOff(hands, beasts[l], tension, NONE);
        int crossedToo = reach.leastOff(hands, beasts[k], tension, NONE);
        reach.combine(hands, BOTH_HANDS);
        if (straight == NONE || straightToo == NONE) return NONE;
        straight += straightToo;
        crossed += crossedToo;
        told.tell(Math.min(straight, crossed));
        return straight <= crossed ? 0 : 1;
    }

    public int stiff(int j, int k) {
        if (!isJoint(j) || !isBeast(k)) return BAD;
        if (!beasts[k].there) return told.find(NOTHING);
        if (reach.spent) return SPENT;
        reach.shade(hands, light, BOTH_HANDS);
        int so = reach.leastOff(hands, beasts[k], tension, j);
        if (so == NONE) return NONE;
        told.tell(so);
        return so - reach.leastOff(hands, beasts[k], tension, NONE);
    }

    // ---- 4 lookers

    public int looker(int e, int a, int d) {
        if (!isWeight(e) || !isWeight(a) || !isWeight(d)) return BAD;
        if (lookers.number >= LOOKERS) return FULL;
        return lookers.add(e, a, d);
    }

    public int weight(int l, int what) {
        if (!isLooker(l) || what < 0 || what >= WEIGHTS) return BAD;
        return told.tell(lookers.weights[l][what]);
    }

    public int call(int l, int p, int k) {
        if (!isLooker(l) || !isPose(p) || !isBeast(k)) return BAD;
        if (!beasts[k].there) return told.find(NOTHING);
        if (lookers.calls >= CALLS) return FULL;
        return lookers.addCall(l, p, k);
    }

    public int guess(int l, int p) {
        if (!isLooker(l) || !isPose(p)) return BAD;
        int named = guessed(l, p);
        if (named == NONE) return NONE;
        told.tell(lookers.least);
        return named;
    }

    public int agrees(int l) {
        if (!isLooker(l)) return BAD;
        int made = 0;
        int alike = 0;
        for (int c = 0; c < lookers.calls; c++) {
            if (lookers.caller[c] != l) continue;
            made++;
            if (guessed(l, lookers.called[c]) == lookers.named[c]) alike++;
        }
        told.tell(made);
        return alike;
    }

    public int fit(int l) {
        if (!isLooker(l)) return BAD;
        lookers.beginFit();
        for (int c = 0; c < lookers.calls; c++) {
            if (lookers.caller[c] != l) continue;
            look(lookers.called[c]);
            lookers.tryFits(beasts, lookers.named[c]);
        }
        int best = lookers.bestFit();
        told.tell(lookers.hits[best]);
        return Lookers.fitCode(best);
    }

    public int odds(int p, int k) {
        if (!isPose(p) || !isBeast(k)) return BAD;
        int all = lookers.callsOf(p, NONE);
        if (all < 1) return told.find(NOUGHT);
        told.share(lookers.callsOf(p, k), all);
        return all;
    }

    // ---- 5 what is told

    public int asked() {
        return told.answer;
    }

    public long upper() {
        return told.over;
    }

    public long lower() {
        return told.under;
    }

    public int count(int what) {
        switch (what) {
            case 0: return hands.wrists;
            case 1: return hands.fingers;
            case 2: return hands.joints;
            case 3: return poseNumber;
            case 4: return heldPoses();
            case 5: return beastsThere();
            case 6: return lookers.number;
            case 7: return lookers.calls;
            case 8: return there(rows);
            case 9: return there(texts);
            default: return BAD;
        }
    }

    public int finding() {
        return told.latest;
    }

    public int findings(int f) {
        return f < NOTHING || f > SIZE ? BAD : told.often[f];
    }

    public long digest() {
        long h = 17;
        for (int what = 0; what <= 9; what++) h = mix(h, count(what));
        h = mix(mix(h, tension), light.code());
        h = hands.digestOn(h);
        for (int p = 0; p < poseNumber; p++) h = poses[p].digestOn(h, hands.joints);
        for (int k = 0; k < BEASTS; k++) h = beasts[k].digestOn(h);
        h = lookers.digestOn(h);
        for (int r = 0; r < ROWS; r++) h = rows[r].digestOn(h);
        for (int t = 0; t < TEXTS; t++) h = texts[t].digestOn(h);
        return h;
    }

    // ---- what the calls share

    private static boolean isRow(int r) {
        return r >= 0 && r < ROWS;
    }

    private static boolean isText(int t) {
        return t >= 0 && t < TEXTS;
    }

    private static boolean isBeast(int k) {
        return k >= 0 && k < BEASTS;
    }

    private static boolean isWeight(int w) {
        return w >= 0 && w <= WEIGHT_MOST;
    }

    private static boolean isShift(int d) {
        return d >= -SHIFT_MOST && d <= SHIFT_MOST;
    }

    private boolean isJoint(int j) {
        return j >= 0 && j < hands.joints;
    }

    private boolean isPose(int p) {
        return p >= 0 && p < poseNumber;
    }

    private boolean isLooker(int l) {
        return l >= 0 && l < lookers.number;
    }

    /** The FINDING for two ROWS (perhaps the same one) that are to be SHADOWS; 0: they are. */
    private static int shadowFinding(Row a, Row b) {
        if (!a.isThere() || !b.isThere()) return NOTHING;
        if (a.size != LINES || b.size != LINES) return SIZE;
        return a.hasLines() && b.hasLines() ? 0 : UNLIKE;
    }

    private void dropPoses(int n) {
        lookers.dropCalls(n);
        poseNumber = n;
    }

    private int placeOf(int p) {
        return reach.placeOf(hands, poses[p].turns);
    }

    /** How many HELD TURNS throw what is wanted, where ever is all that is dark in some of them. */
    private int numberThrowingBy(Lamp lamp) {
        // Most LAMPS are ruled out at once: the WRISTS, dark in all TURNS, throw too much, or all TURNS together too little.
        hands.wristCells(BOTH_HANDS, seen);
        lamp.throwCells(seen.top, seen.low, seen);
        if (!wanted.has(seen)) return 0;
        lamp.throwCells(ever.top, ever.low, seen);
        if (!seen.has(wanted)) return 0;
        reach.shade(hands, lamp, BOTH_HANDS);
        return reach.numberThrowing(wanted, tension);
    }

    /** Lets the LOOKERS see a POSE by the LAMP. */
    private void look(int p) {
        poses[p].shadow(light, seen);
        lookers.measure(beasts, seen, poses[p].kind == MOVING);
    }

    private int guessed(int l, int p) {
        look(p);
        int[] w = lookers.weights[l];
        return lookers.guessBy(beasts, w[0], w[1], w[2]);
    }

    private int heldPoses() {
        int held = 0;
        for (int p = 0; p < poseNumber; p++) {
            if (poses[p].isHeld()) held++;
        }
        return held;
    }

    private int beastsThere() {
        int n = 0;
        for (int k = 0; k < BEASTS; k++) {
            if (beasts[k].there) n++;
        }
        return n;
    }

    private static int there(Row[] all) {
        int n = 0;
        for (int i = 0; i < all.length; i++) {
            if (all[i].isThere()) n++;
        }
        return n;
    }

    private static long mix(long h, long v) {
        return 31 * h + v;
    }

    /** What asked(), upper(), lower(), finding(), findings() tell. */
    private static final class Told {
        int answer;
        long over;
        long under = 1;
        int latest;
        final int[] often = new int[SIZE + 1];

        int tell(int v) {
            answer = v;
            return 1;
        }

        int find(int finding) {
            if (finding >= NOTHING && finding <= SIZE) {
                latest = finding;
                often[finding]++;
            }
            return FINDING;
        }

        /** Tells part by whole (0 <= part, 0 < whole) in lowest terms. */
        void share(int part, int whole) {
            int a = whole;
            int b = part;
            for (int i = 0; i < 64 && b > 0; i++) {
                int rest = a % b;
                a = b;
                b = rest;
            }
            if (a < 1) return;
            over = part / a;
            under = whole / a;
        }
    }

    /** A ROW or a TEXT: a row of numbers that is there or missing. */
    private static final class Row {
        private static final int MISSING = -1;
        int size = MISSING;
        private final int[] places;

        Row(int most) {
            places = new int[Math.max(most, 0)];
        }

        boolean isThere() {
            return size >= 0;
        }

        void lose() {
            size = MISSING;
        }

        void renew(int n, int v) {
            if (n < 0 || n > places.length) return;
            size = n;
            for (int i = 0; i < n; i++) places[i] = v;
        }

        boolean holds(int i) {
            return i >= 0 && i < size;
        }

        boolean holdsFrom(int i, int n) {
            return i >= 0 && i <= size && n <= size - i;
        }

        int get(int i) {
            return holds(i) ? places[i] : 0;
        }

        void set(int i, int v) {
            if (holds(i)) places[i] = v;
        }

        /** n places from i on of another ROW (perhaps this one) come to those from j on, as if taken ahead. */
        void take(int j, Row from, int i, int n) {
            if (n < 0 || !holdsFrom(j, n) || !from.holdsFrom(i, n)) return;
            System.arraycopy(from.places, i, places, j, n);
        }

        long sum() {
            long all = 0;
            for (int i = 0; i < size; i++) all += get(i);
            return all;
        }

        boolean hasLines() {
            for (int i = 0; i < size; i++) {
                if (get(i) < 0 || get(i) > LINE_MOST) return false;
            }
            return true;
        }

        void showCells(Cells cells) {
            renew(LINES, 0);
            for (int y = 0; y < LINES; y++) set(y, cells.line(y));
        }

        void showTo(Cells cells) {
            cells.clear();
            for (int y = 0; y < LINES; y++) cells.addLine(y, get(y));
        }

        long digestOn(long h) {
            h = mix(h, size);
            for (int i = 0; i < size; i++) h = mix(h, get(i));
            return h;
        }
    }

    /** A set of CELLS by bits: CELL c is bit c of top, or (60 and more) bit c - 60 of low. */
    private static final class Cells {
        long top;
        long low;

        void clear() {
            top = 0;
            low = 0;
        }

        void become(Cells other) {
            top = other.top;
            low = other.low;
        }

        void join(long otherTop, long otherLow) {
            top |= otherTop;
            low |= otherLow;
        }

        void leave(Cells other) {
            top &= ~other.top;
            low &= ~other.low;
        }

        boolean has(Cells other) {
            return (other.top & ~top) == 0 && (other.low & ~low) == 0;
        }

        boolean is(long otherTop, long otherLow) {
            return top == otherTop && low == otherLow;
        }

        int number() {
            return Long.bitCount(top) + Long.bitCount(low);
        }

        static boolean isCell(int x, int y) {
            return x >= 0 && x < WIDE && y >= 0 && y < LINES;
        }

        /** Whether x, y is a CELL that was not in the set as yet; it is from now on. */
        boolean addNew(int x, int y) {
            if (!isCell(x, y)) return false;
            long topBefore = top;
            long lowBefore = low;
            addLine(y, 1 << x);
            return top != topBefore || low != lowBefore;
        }

        int line(int y) {
            if (y < 0 || y >= LINES) return 0;
            long half = y < HALF_LINES ? top >>> WIDE * y : low >>> WIDE * (y - HALF_LINES);
            return (int) half & LINE_MOST;
        }

        void addLine(int y, int bits) {
            if (y < 0 || y >= LINES) return;
            if (y < HALF_LINES) top |= (long) (bits & LINE_MOST) << WIDE * y;
            else low |= (long) (bits & LINE_MOST) << WIDE * (y - HALF_LINES);
        }

        long digestOn(long h) {
            for (int y = 0; y < LINES; y++) h = mix(h, line(y));
            return h;
        }
    }

    /** A LAMP. */
    private static final class Lamp {
        private int z = 1;
        private int dx;
        private int dy;

        void become(int newZ, int newDx, int newDy) {
            z = newZ;
            dx = newDx;
            dy = newDy;
        }

        /** Becomes LAMP n of all of them by z, then dx, dy. */
        void becomeNumber(int n) {
            become(1 + n / (SHIFTS * SHIFTS), n / SHIFTS % SHIFTS - SHIFT_MOST, n % SHIFTS - SHIFT_MOST);
        }

        int code() {
            return 100 * z + 10 * (dx + SHIFT_MOST) + dy + SHIFT_MOST;
        }

        /** What is thrown of CELLS becomes the SHADOW. */
        void throwCells(long top, long low, Cells shadow) {
            shadow.clear();
            throwHalf(top, 0, shadow);
            throwHalf(low, HALF_LINES, shadow);
        }

        private void throwHalf(long half, int firstLine, Cells shadow) {
            long rest = half;
            for (int i = 0; i < HALF && rest != 0; i++) {
                int cell = Long.numberOfTrailingZeros(rest);
                throwCell(cell % WIDE, firstLine + cell / WIDE, shadow);
                rest &= rest - 1;
            }
        }

        /** Both LAMPS alike: a CELL comes to z by z CELLS from z times its own place on. */
        private void throwCell(int x, int y, Cells shadow) {
            // Shifted too far on and then back, so that what is out on the left falls off (on the right, a line is cut).
            int bits = (1 << z) - 1 << z * x + dx + SHIFT_MOST >> SHIFT_MOST;
            for (int b = 0; b < z; b++) shadow.addLine(z * y + dy + b, bits);
        }
    }

    /** The HANDS with their FINGERS and JOINTS. */
    private static final class Hands {
        private static final int[] STEP_X = {0, 1, 1, 1, 0, -1, -1, -1};
        private static final int[] STEP_Y = {-1, -1, 0, 1, 1, 1, 0, -1};

        int wrists;
        int fingers;
        int joints;
        final int[] wrist = new int[HANDS];
        // of each FINGER: its HAND, its SIDE, its first JOINT, how many JOINTS
        final int[] owner = new int[FINGERS];
        final int[] side = new int[FINGERS];
        final int[] first = new int[FINGERS];
        final int[] length = new int[FINGERS];
        // of each JOINT: its FINGER, how far it turns
        final int[] holder = new int[JOINTS];
        final int[] behind = new int[JOINTS];
        final int[] ahead = new int[JOINTS];

        void clear() {
            wrists = 0;
            fingers = 0;
            joints = 0;
        }

        boolean addHand(int cell) {
            if (wrists >= HANDS || cell < 0 || cell >= CELLS) return false;
            wrist[wrists] = cell;
            wrists++;
            return true;
        }

        boolean addFinger(int onSide) {
            if (wrists < 1 || fingers >= FINGERS) return false;
            owner[fingers] = wrists - 1;
            side[fingers] = onSide;
            first[fingers] = joints;
            length[fingers] = 0;
            fingers++;
            return true;
        }

        boolean addJoint(int b, int t) {
            if (fingers < 1 || joints >= JOINTS) return false;
            holder[joints] = fingers - 1;
            behind[joints] = b;
            ahead[joints] = t;
            joints++;
            length[fingers - 1]++;
            return true;
        }

        /** In how many ways a JOINT can be turned: never fewer than one. */
        int span(int j) {
            return j >= 0 && j < joints ? Math.max(behind[j] + ahead[j] + 1, 1) : 1;
        }

        boolean canTurn(Row turns) {
            for (int j = 0; j < joints; j++) {
                if (turns.get(j) < -behind[j] || turns.get(j) > ahead[j]) return false;
            }
            return true;
        }

        /** Sets the turns of a FINGER's JOINTS to the n-th ones of it alone: these without signs together. */
        int turnFinger(int f, int n, int[] turns) {
            int rest = n;
            int load = 0;
            for (int j = first[f] + length[f] - 1; j >= first[f]; j--) {
                int span = span(j);
                turns[j] = rest % span - behind[j];
                load += Math.abs(turns[j]);
                rest /= span;
            }
            return load;
        }

        /** The WRISTS (of both HANDS, or one) become dark: how many are where one was. */
        int wristCells(int only, Cells dark) {
            dark.clear();
            int wrong = 0;
            for (int h = 0; h < wrists; h++) {
                boolean counts = only == BOTH_HANDS || only == h;
                if (counts && !dark.addNew(wrist[h] % WIDE, wrist[h] / WIDE)) wrong++;
            }
            return wrong;
        }

        /** The PIECES of a FINGER become dark: how many are out of the map or where it was dark. */
        int fingerCells(int f, int[] turns, Cells dark) {
            int wrong = 0;
            int x = wrist[owner[f]] % WIDE;
            int y = wrist[owner[f]] / WIDE;
            int to = side[f];
            for (int piece = 0; piece <= length[f]; piece++) {
                if (piece > 0) to = to + turns[first[f] + piece - 1] & 7;
                x += STEP_X[to];
                y += STEP_Y[to];
                if (!dark.addNew(x, y)) wrong++;
            }
            return wrong;
        }

        /** All WRISTS and PIECES become dark: how many are out of the map or in a CELL of one ahead of them. */
        int allCells(int[] turns, Cells dark) {
            int wrong = wristCells(BOTH_HANDS, dark);
            for (int f = 0; f < fingers; f++) wrong += fingerCells(f, turns, dark);
            return wrong;
        }

        long digestOn(long h) {
            for (int i = 0; i < wrists; i++) h = mix(h, wrist[i]);
            for (int f = 0; f < fingers; f++) h = mix(mix(mix(mix(h, owner[f]), side[f]), first[f]), length[f]);
            for (int j = 0; j < joints; j++) h = mix(mix(mix(h, holder[j]), behind[j]), ahead[j]);
            return h;
        }
    }

    /** Reads HANDS from a TEXT. */
    private static final class Reader {
        private static final int HAND_SIGN = 104, FINGER_SIGN = 102, FIGURE_0 = 48, NO_FIGURE = -1;
        private static final int CELL_FIGURES = 3, LAST_SIDE = 7;

        private Row from;
        private Hands into;
        private int place;

        /** The FAULT, or NONE: then the HANDS are those of the TEXT. */
        int read(Row text, Hands hands) {
            from = text;
            into = hands;
            place = 0;
            into.clear();
            for (int n = 0; n <= TEXT_MOST && place < from.size; n++) {
                if (!readOne()) return place;
            }
            return NONE;
        }

        /** Reads a blank or an item; if it can't go on, place is where. */
        private boolean readOne() {
            int sign = from.get(place);
            if (sign == HAND_SIGN) return readHand();
            if (sign == FINGER_SIGN) return readFinger();
            if (sign != BLANK) return false;
            place++;
            return true;
        }

        private boolean readHand() {
            if (into.wrists >= HANDS) return false;
            place++;
            int cell = 0;
            int figures = 0;
            for (int i = 0; i < CELL_FIGURES && figure() != NO_FIGURE; i++) {
                cell = 10 * cell + figure();
                figures++;
                place++;
            }
            return figures > 0 && into.addHand(cell);
        }

        private boolean readFinger() {
            if (into.wrists < 1 || into.fingers >= FINGERS) return false;
            place++;
            if (figure() == NO_FIGURE || figure() > LAST_SIDE) return false;
            into.addFinger(figure());
            place++;
            for (int i = 0; i < FINGER_JOINTS && figure() != NO_FIGURE; i++) {
                if (!readJoint()) return false;
            }
            return true;
        }

        private boolean readJoint() {
            if (into.joints >= JOINTS || !isTurn(figure())) return false;
            int b = figure();
            place++;
            if (!isTurn(figure())) return false;
            into.addJoint(b, figure());
            place++;
            return true;
        }

        private static boolean isTurn(int figure) {
            return figure >= 0 && figure <= TURN_MOST;
        }

        private int figure() {
            if (!from.holds(place)) return NO_FIGURE;
            int sign = from.get(place);
            return sign >= FIGURE_0 && sign <= FIGURE_0 + 9 ? sign - FIGURE_0 : NO_FIGURE;
        }
    }

    /** A POSE, with what HANDS and STRAIN made of it when it was told. */
    private static final class Pose {
        final int[] turns = new int[JOINTS];
        final Cells dark = new Cells();
        final Cells card = new Cells();
        int kind;
        int mover;
        int load;
        int above;
        int wrong;

        void begin(Row from, int joint) {
            for (int j = 0; j < JOINTS; j++) turns[j] = from.get(j);
            mover = joint;
            card.clear();
        }

        void judge(Hands hands, int tension, Cells movedDark) {
            load = weigh();
            wrong = hands.allCells(turns, dark);
            int most = load;
            if (mover >= 0 && mover < JOINTS) {
                turns[mover]++;
                most = Math.max(most, weigh());
                wrong = Math.max(wrong, hands.allCells(turns, movedDark));
                turns[mover]--;
            }
            above = most - tension;
            if (wrong > 0) kind = BARRED;
            else if (above > 0) kind = STRAINED;
            else kind = mover == NONE ? HELD : MOVING;
        }

        private int weigh() {
            int sum = 0;
            for (int j = 0; j < JOINTS; j++) sum += Math.abs(turns[j]);
            return sum;
        }

        boolean isHeld() {
            return kind == HELD || kind == MOVING || kind == HELPED;
        }

        void shadow(Lamp lamp, Cells shadow) {
            lamp.throwCells(dark.top, dark.low, shadow);
            // A CARD is a SHADOW of its own: it is on the SHEET as it was given, by any LAMP.
            if (kind == HELPED) shadow.join(card.top, card.low);
        }

        long digestOn(long h, int joints) {
            h = mix(mix(mix(h, kind), load), mover);
            for (int j = 0; j < joints && j < JOINTS; j++) h = mix(h, turns[j]);
            return h;
        }
    }

    /** A BEAST, there or missing. */
    private static final class Beast {
        final Cells must = new Cells();
        final Cells may = new Cells();
        int moves;
        boolean there;

        int missed(long top, long low) {
            return Long.bitCount(must.top & ~top) + Long.bitCount(must.low & ~low);
        }

        int over(long top, long low) {
            return Long.bitCount(top & ~(must.top | may.top)) + Long.bitCount(low & ~(must.low | may.low));
        }

        int offOf(long top, long low) {
            return missed(top, low) + over(top, low);
        }

        long digestOn(long h) {
            if (!there) return mix(h, -1);
            return mix(may.digestOn(must.digestOn(h)), moves);
        }
    }

    /** The LOOKERS and their CALLS. */
    private static final class Lookers {
        private static final int FITS = 27;

        int number;
        final int[][] weights = new int[LOOKERS][WEIGHTS];
        int calls;
        final int[] caller = new int[CALLS];
        final int[] called = new int[CALLS];
        final int[] named = new int[CALLS];
        // of each BEAST, for the POSE that is looked at: MISSED, OVER, and 1 if just one of both MOVES
        private final int[] missed = new int[BEASTS];
        private final int[] over = new int[BEASTS];
        private final int[] unlike = new int[BEASTS];
        int least;
        final int[] hits = new int[FITS];

        int add(int e, int a, int d) {
            if (number >= LOOKERS) return FULL;
            weights[number][0] = e;
            weights[number][1] = a;
            weights[number][2] = d;
            number++;
            return number - 1;
        }

        int addCall(int l, int p, int k) {
            if (calls >= CALLS) return FULL;
            setCall(calls, l, p, k);
            calls++;
            return calls - 1;
        }

        private void setCall(int c, int l, int p, int k) {
            caller[c] = l;
            called[c] = p;
            named[c] = k;
        }

        /** CALLS of POSES from number n on go. */
        void dropCalls(int n) {
            int kept = 0;
            for (int c = 0; c < calls; c++) {
                if (called[c] >= n) continue;
                setCall(kept, caller[c], called[c], named[c]);
                kept++;
            }
            calls = kept;
        }

        /** How many CALLS of a POSE are of a BEAST (NONE: of any). */
        int callsOf(int p, int k) {
            int n = 0;
            for (int c = 0; c < calls; c++) {
                if (called[c] == p && (k == NONE || named[c] == k)) n++;
            }
            return n;
        }

        void measure(Beast[] beasts, Cells shadow, boolean moving) {
            for (int k = 0; k < BEASTS && k < beasts.length; k++) {
                missed[k] = beasts[k].missed(shadow.top, shadow.low);
                over[k] = beasts[k].over(shadow.top, shadow.low);
                unlike[k] = (beasts[k].moves == 1) == moving ? 0 : 1;
            }
        }

        /** The BEAST that WEIGHTS name of what was measured, or NONE; by how much: least. */
        int guessBy(Beast[] beasts, int e, int a, int d) {
            int best = NONE;
            for (int k = 0; k < BEASTS && k < beasts.length; k++) {
                if (!beasts[k].there) continue;
                int sum = e * missed[k] + a * over[k] + d * unlike[k];
                if (best == NONE || sum < least) {
                    best = k;
                    least = sum;
                }
            }
            return best;
        }

        void beginFit() {
            for (int n = 0; n < FITS; n++) hits[n] = 0;
        }

        void tryFits(Beast[] beasts, int wish) {
            for (int n = 0; n < FITS; n++) {
                if (guessBy(beasts, n / 9, n / 3 % 3, n % 3) == wish) hits[n]++;
            }
        }

        int bestFit() {
            int best = 0;
            for (int n = 1; n < FITS; n++) {
                if (hits[n] > hits[best]) best = n;
            }
            return best;
        }

        static int fitCode(int n) {
            return 100 * (n / 9) + 10 * (n / 3 % 3) + n % 3;
        }

        long digestOn(long h) {
            for (int l = 0; l < number; l++) {
                for (int what = 0; what < WEIGHTS; what++) h = mix(h, weights[l][what]);
            }
            for (int c = 0; c < calls; c++) h = mix(mix(mix(h, caller[c]), called[c]), named[c]);
            return h;
        }
    }

    /**
     * All TURNS of the HANDS, in their order. A FINGER's JOINTS are numbered one behind the other, so the TURNS are
     * each FINGER's own turns, told apart once, joined with those of the FINGERS behind it.
     */
    private static final class Reach {
        private static final int OWN_MOST = 125, NO_LOAD = -1;

        boolean spent;
        /** How many TURNS the rows are of: never more than these hold. */
        int size = 1;
        /** Of each JOINT: by how many TURNS further on its next turn is, and how many turns it has. */
        final int[] step = new int[JOINTS];
        final int[] span = new int[JOINTS];
        // of each of the TURNS: turns without signs together (BARRED: none), what is dark, what is thrown
        private final byte[] load = new byte[TURNS_MOST];
        private final long[] top = new long[TURNS_MOST];
        private final long[] low = new long[TURNS_MOST];
        private final long[] thrownTop = new long[TURNS_MOST];
        private final long[] thrownLow = new long[TURNS_MOST];
        // of each of a FINGER's own turns, OWN_MOST places a FINGER
        private final int[] ownSize = new int[FINGERS];
        private final byte[] ownLoad = new byte[FINGERS * OWN_MOST];
        private final long[] ownTop = new long[FINGERS * OWN_MOST];
        private final long[] ownLow = new long[FINGERS * OWN_MOST];
        private final long[] ownThrownTop = new long[OWN_MOST];
        private final long[] ownThrownLow = new long[OWN_MOST];
        private final int[] turns = new int[JOINTS];
        private final Cells cells = new Cells();

        void learn(Hands hands) {
            int all = 1;
            for (int j = hands.joints - 1; j >= 0; j--) {
                step[j] = all;
                span[j] = hands.span(j);
                all *= span[j];
            }
            for (int f = 0; f < hands.fingers; f++) learnFinger(hands, f);
            spent = all > TURNS_MOST;
            if (spent) size = 0;
            else combine(hands, BOTH_HANDS);
        }

        private void learnFinger(Hands hands, int f) {
            int own = 1;
            for (int i = 0; i < hands.length[f]; i++) own *= hands.span(hands.first[f] + i);
            ownSize[f] = Math.min(own, OWN_MOST);
            for (int n = 0; n < ownSize[f]; n++) {
                int at = f * OWN_MOST + n;
                ownLoad[at] = (byte) hands.turnFinger(f, n, turns);
                cells.clear();
                if (hands.fingerCells(f, turns, cells) > 0) ownLoad[at] = NO_LOAD;
                ownTop[at] = cells.top;
                ownLow[at] = cells.low;
            }
        }

        /** The rows are of the TURNS of both HANDS, or of one alone. */
        void combine(Hands hands, int only) {
            load[0] = hands.wristCells(only, cells) > 0 ? (byte) NO_LOAD : 0;
            top[0] = cells.top;
            low[0] = cells.low;
            size = 1;
            for (int f = 0; f < hands.fingers; f++) {
                if (only != BOTH_HANDS && hands.owner[f] != only) continue;
                if (size * ownSize[f] > TURNS_MOST) return;
                joinLoads(size, f);
                join(top, size, ownTop, f * OWN_MOST, ownSize[f]);
                join(low, size, ownLow, f * OWN_MOST, ownSize[f]);
                size *= ownSize[f];
            }
        }

        /** What all the TURNS (of both HANDS, or of one alone, as they were combined) throw by a LAMP. */
        void shade(Hands hands, Lamp lamp, int only) {
            hands.wristCells(only, cells);
            lamp.throwCells(cells.top, cells.low, cells);
            thrownTop[0] = cells.top;
            thrownLow[0] = cells.low;
            int done = 1;
            for (int f = 0; f < hands.fingers; f++) {
                if (only != BOTH_HANDS && hands.owner[f] != only) continue;
                for (int n = 0; n < ownSize[f]; n++) {
                    lamp.throwCells(ownTop[f * OWN_MOST + n], ownLow[f * OWN_MOST + n], cells);
                    ownThrownTop[n] = cells.top;
                    ownThrownLow[n] = cells.low;
                }
                join(thrownTop, done, ownThrownTop, 0, ownSize[f]);
                join(thrownLow, done, ownThrownLow, 0, ownSize[f]);
                done *= ownSize[f];
            }
        }

        /** Each of the first n becomes as many as there are own ones, joined with each; from behind, so that none is lost. */
        private static void join(long[] all, int n, long[] own, int from, int times) {
            if (n * times > all.length || from < 0 || from + times > own.length) return;
            for (int i = n - 1; i >= 0; i--) {
                long ahead = all[i];
                for (int c = times - 1; c >= 0; c--) all[i * times + c] = ahead | own[from + c];
            }
        }

        /** The same for loads, as long as the rows of what is dark are not joined with the FINGER. */
        private void joinLoads(int n, int f) {
            int times = ownSize[f];
            if (n * times > TURNS_MOST) return;
            for (int i = n - 1; i >= 0; i--) {
                byte ahead = load[i];
                for (int c = times - 1; c >= 0; c--) load[i * times + c] = joinedLoad(ahead, i, f * OWN_MOST + c);
            }
        }

        private byte joinedLoad(byte ahead, int i, int own) {
            if (ahead < 0 || ownLoad[own] < 0) return NO_LOAD;
            if ((top[i] & ownTop[own]) != 0 || (low[i] & ownLow[own]) != 0) return NO_LOAD;
            return (byte) (ahead + ownLoad[own]);
        }

        boolean isBarred(int i) {
            return i < 0 || i >= size || load[i] < 0;
        }

        boolean isHeld(int i, int tension) {
            return !isBarred(i) && load[i] <= tension;
        }

        int turnAt(Hands hands, int i, int j) {
            if (j < 0 || j >= hands.joints || step[j] < 1 || span[j] < 1) return 0;
            return i / step[j] % span[j] - hands.behind[j];
        }

        int placeOf(Hands hands, int[] of) {
            int place = 0;
            for (int j = 0; j < hands.joints && j < of.length; j++) place += (of[j] + hands.behind[j]) * step[j];
            return place;
        }

        int offOf(Beast beast, int i) {
            return i < 0 || i >= size ? NONE : beast.offOf(thrownTop[i], thrownLow[i]);
        }

        /** The first HELD TURNS whose OFF is least, a JOINT at 0 (NONE: no matter which); NONE: there are none. */
        int nearestTurns(Hands hands, Beast beast, int tension, int stiffJoint) {
            int best = NONE;
            int least = 0;
            for (int i = 0; i < size; i++) {
                if (!isHeld(i, tension)) continue;
                if (stiffJoint != NONE && turnAt(hands, i, stiffJoint) != 0) continue;
                int so = offOf(beast, i);
                if (best == NONE || so < least) {
                    best = i;
                    least = so;
                }
            }
            return best;
        }

        int leastOff(Hands hands, Beast beast, int tension, int stiffJoint) {
            return offOf(beast, nearestTurns(hands, beast, tension, stiffJoint));
        }

        /** All that is dark in some HELD TURNS. */
        void joinDark(int tension, Cells all) {
            all.clear();
            for (int i = 0; i < size; i++) {
                if (isHeld(i, tension)) all.join(top[i], low[i]);
            }
        }

        private boolean throwsJust(int i, Cells shadow, int tension) {
            return isHeld(i, tension) && shadow.is(thrownTop[i], thrownLow[i]);
        }

        int numberThrowing(Cells shadow, int tension) {
            int n = 0;
            for (int i = 0; i < size; i++) {
                if (throwsJust(i, shadow, tension)) n++;
            }
            return n;
        }

        /** JOINTS (bits) that turn alike in all HELD TURNS that throw a SHADOW. */
        int alikeJoints(Hands hands, Cells shadow, int tension) {
            int alike = (1 << hands.joints) - 1;
            int model = NONE;
            for (int i = 0; i < size; i++) {
                if (!throwsJust(i, shadow, tension)) continue;
                if (model == NONE) model = i;
                for (int j = 0; j < hands.joints; j++) {
                    if (turnAt(hands, i, j) != turnAt(hands, model, j)) alike &= ~(1 << j);
                }
            }
            return alike;
        }
    }

    /** WAYS, and POSES in an order by them. */
    private static final class Ways {
        private static final int CLOSED = -2, OPEN = -1, LOST = 1000000;

        /** Of each of the TURNS: whether a WAY may go by it, and how far it is, if one came there. */
        private final int[] far = new int[TURNS_MOST];
        private final int[] queue = new int[TURNS_MOST];
        private int queued;
        // the POSES to be put in an order: their numbers, their TURNS, the WAYS between two of them
        int stops;
        private final int[] stop = new int[ORDER_MOST];
        private final int[] stopPlace = new int[ORDER_MOST];
        private final int[][] between = new int[ORDER_MOST][ORDER_MOST];
        /** Of each set of stops that are done (ORDER_MOST places each) and the last one of them: the shortest rest. */
        private final int[] rest = new int[ORDER_MOST << ORDER_MOST];
        final int[] inOrder = new int[ORDER_MOST];

        void openHeld(Reach reach, int tension) {
            for (int i = 0; i < TURNS_MOST; i++) far[i] = reach.isHeld(i, tension) ? OPEN : CLOSED;
        }

        /** No WAY goes by what is seen, but for both its ends. */
        void closeSeen(Reach reach, Beast beast, int d, int p, int q) {
            for (int i = 0; i < TURNS_MOST; i++) {
                if (far[i] == OPEN && i != p && i != q && reach.offOf(beast, i) <= d) far[i] = CLOSED;
            }
        }

        /** How long the shortest WAY by what is open is, or NONE. */
        int length(Reach reach, Hands hands, int p, int q) {
            walk(reach, hands, p, q);
            return farOf(q) < 0 ? NONE : farOf(q);
        }

        private int farOf(int i) {
            return i < 0 || i >= TURNS_MOST ? CLOSED : far[i];
        }

        /** Goes as far as it can from p on, no farther than to q (NONE: no matter where). */
        private void walk(Reach reach, Hands hands, int p, int q) {
            queued = 0;
            come(p, 0);
            for (int n = 0; n < queued && n < TURNS_MOST && farOf(q) < 0; n++) {
                int i = queue[n];
                int next = far[i] + 1;
                for (int j = 0; j < hands.joints; j++) {
                    int step = reach.step[j];
                    int span = reach.span[j];
                    if (step < 1 || span < 1) continue;
                    int turned = i / step % span;
                    if (turned > 0) come(i - step, next);
                    if (turned < span - 1) come(i + step, next);
                }
            }
        }

        private void come(int i, int length) {
            if (farOf(i) != OPEN || queued >= TURNS_MOST) return;
            far[i] = length;
            queue[queued] = i;
            queued++;
        }

        void beginOrder() {
            stops = 0;
        }

        void addStop(int p, int place) {
            if (stops >= ORDER_MOST) return;
            stop[stops] = p;
            stopPlace[stops] = place;
            stops++;
        }

        /** How long the shortest order is, or NONE; the first such one is told by inOrder. */
        int orderStops(Reach reach, Hands hands, int tension) {
            for (int a = 0; a < stops; a++) {
                openHeld(reach, tension);
                walk(reach, hands, stopPlace[a], NONE);
                // A WAY back is as long as the WAY, so those to the stops ahead are known.
                for (int b = a; b < stops; b++) {
                    between[a][b] = farOf(stopPlace[b]) < 0 ? LOST : farOf(stopPlace[b]);
                    between[b][a] = between[a][b];
                }
            }
            int all = (1 << stops) - 1;
            for (int done = all; done > 0; done--) {
                for (int last = 0; last < stops; last++) {
                    rest[done * ORDER_MOST + last] = done == all ? between[last][last] : leastRest(done, last);
                }
            }
            int least = leastRest(0, NONE);
            if (least >= LOST) return NONE;
            putInOrder();
            return least;
        }

        /** How long it is by a next stop, from the last one (NONE: there is none as yet) to the end. */
        private int restBy(int done, int last, int next) {
            return (last == NONE ? 0 : between[last][next]) + rest[(done | 1 << next) * ORDER_MOST + next];
        }

        private int leastRest(int done, int last) {
            int least = LOST;
            for (int next = 0; next < stops; next++) {
                if ((done >> next & 1) == 0) least = Math.min(least, restBy(done, last, next));
            }
            return least;
        }

        private void putInOrder() {
            int done = 0;
            int last = NONE;
            for (int n = 0; n < stops; n++) {
                int next = firstNext(done, last);
                inOrder[n] = stop[next];
                done |= 1 << next;
                last = next;
            }
        }

        /** The first of the stops by which the rest is shortest. */
        private int firstNext(int done, int last) {
            int least = leastRest(done, last);
            for (int next = 0; next < stops; next++) {
                if ((done >> next & 1) == 0 && restBy(done, last, next) == least) return next;
            }
            return 0;
        }
    }
}

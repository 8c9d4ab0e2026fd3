/** ANSWERS and promises 44 to 50: what is told before anything was, at the most, and that refusals tell nothing. */
final class EdgesOfToldTest {
    private static final int NONE = HandBeasts.NONE, LEAST = Twins.LEAST, MOST = Twins.MOST;

    private EdgesOfToldTest() {
    }

    // ---- before

    static void promise44Asked0Before() {
        Kit.same("asked()", new HandBeasts().asked(), 0);
    }

    static void promise45Upper0Before() {
        Kit.same("upper()", new HandBeasts().upper(), 0);
    }

    static void promise46Lower1Before() {
        Kit.same("lower()", new HandBeasts().lower(), 1);
    }

    static void promise48Finding0Before() {
        Kit.same("finding()", new HandBeasts().finding(), 0);
    }

    static void promise49Findings0Before() {
        HandBeasts x = new HandBeasts();
        for (int f = 1; f <= 5; f++) Kit.same("findings(" + f + ")", x.findings(f), 0);
    }

    // ---- 44 asked()

    static void promise44AskedOfTheLeastAndTheMost() {
        HandBeasts x = new HandBeasts();
        Kit.row(x, 0, LEAST, MOST);
        Kit.tells(x, "at()", x.at(0, 0), LEAST);
        Kit.tells(x, "at()", x.at(0, 1), MOST);
    }

    static void promise44AskedStaysByRefusals() {
        HandBeasts x = Scenes.some();
        Kit.row(x, 5, 77);
        x.at(5, 0);
        x.lay(0, 10, 1);
        x.lay(6, 0, 1);
        x.at(0, -1);
        x.mean(1);
        x.finger(2, 0);
        x.joint(0, 3);
        x.pose(1, NONE);
        x.about(5, 0);
        x.turn(0, 2);
        x.off(0, 1);
        x.sets(1);
        x.where(0, 1);
        x.picture(3);
        x.two(0, 1);
        x.stiff(2, 0);
        x.weight(2, 0);
        x.guess(2, 0);
        x.agrees(2);
        x.fit(2);
        Kit.same("asked()", x.asked(), 77);
    }

    static void promise44AskedStaysByFull() {
        HandBeasts x = Scenes.full();
        Kit.row(x, 5, 77);
        x.at(5, 0);
        Kit.same("pose()", x.pose(4, NONE), HandBeasts.FULL);
        Kit.same("asked()", x.asked(), 77);
    }

    static void promise44AskedStaysBySpent() {
        HandBeasts x = Scenes.spent();
        Kit.row(x, 5, 77);
        x.at(5, 0);
        x.many();
        x.sets(0);
        x.picture(0);
        x.two(0, 0);
        x.stiff(0, 0);
        Kit.same("asked()", x.asked(), 77);
    }

    static void promise44AskedStaysByNone() {
        HandBeasts x = Scenes.noneHeld();
        Kit.row(x, 1, 77);
        x.at(1, 0);
        Kit.same("picture()", x.picture(0), NONE);
        Kit.same("stiff()", x.stiff(0, 0), NONE);
        Kit.same("nearest()", x.nearest(0, 1), NONE);
        Kit.same("asked()", x.asked(), 77);
    }

    // ---- 45 upper(), 46 lower()

    static void promise45FractionOfNoneIs0By1() {
        HandBeasts x = Scenes.some();
        x.odds(0, 3);
        Kit.same("odds()", x.odds(0, 1), 2);
        Kit.same("upper()", x.upper(), 0);
        Kit.same("lower()", x.lower(), 1);
    }

    static void promise45FractionOfAllIs1By1() {
        HandBeasts x = Scenes.full();
        Kit.same("odds()", x.odds(11, 5), 2);
        Kit.same("upper()", x.upper(), 1);
        Kit.same("lower()", x.lower(), 1);
    }

    static void promise45FractionStaysByRefusals() {
        HandBeasts x = Scenes.some();
        Kit.same("odds()", x.odds(0, 3), 2);
        x.odds(2, 0);
        x.odds(5, 0);
        x.odds(0, 6);
        Kit.same("upper()", x.upper(), 1);
        Kit.same("lower()", x.lower(), 2);
    }

    static void promise45FractionStaysByOtherCalls() {
        HandBeasts x = Scenes.some();
        x.odds(0, 3);
        x.agrees(0);
        x.fit(0);
        x.mean(0);
        x.back(0);
        Kit.same("upper()", x.upper(), 1);
        Kit.same("lower()", x.lower(), 2);
    }

    // ---- 47 count()

    private static void counts(HandBeasts x, int... due) {
        for (int what = 0; what < 10; what++) Kit.same("count(" + what + ")", x.count(what), due[what]);
    }

    static void promise47CountOfNone() {
        counts(new HandBeasts(), 0, 0, 0, 0, 0, 0, 0, 0, 0, 0);
    }

    static void promise47CountOfSome() {
        counts(Scenes.some(), 2, 2, 2, 5, 3, 2, 2, 3, 5, 3);
    }

    static void promise47CountOfAll() {
        counts(Scenes.full(), 2, 2, 2, 12, 12, 6, 8, 24, 6, 4);
    }

    static void promise47CountOfTheMostFingersAndJoints() {
        counts(Kit.withHands("h26f0212121f3h80f0212121f3f5f6", 6), 2, 6, 6, 0, 0, 0, 0, 0, 0, 1);
    }

    // ---- 48 finding(), 49 findings()

    private static void found(HandBeasts x, int finding, int... often) {
        Kit.same("finding()", x.finding(), finding);
        for (int f = 1; f <= 5; f++) Kit.same("findings(" + f + ")", x.findings(f), often[f - 1]);
    }

    static void promise48NothingIs1() {
        HandBeasts x = new HandBeasts();
        x.tear(0);
        found(x, 1, 1, 0, 0, 0, 0);
    }

    static void promise48BeyondIs2() {
        HandBeasts x = new HandBeasts();
        x.text(0, 0);
        x.put(0, 0, 1);
        found(x, 2, 0, 1, 0, 0, 0);
    }

    static void promise48UnlikeIs3() {
        HandBeasts x = new HandBeasts();
        Kit.row(x, 0, 0, 0, 0, 0, 0, 0, 0, 0, 0, -1);
        x.sets(0);
        found(x, 3, 0, 0, 1, 0, 0);
        x.row(1, 0);
        x.pose(1, NONE);
        x.mark(0, 2);
        found(x, 3, 0, 0, 2, 0, 0);
    }

    static void promise48NoughtIs4() {
        HandBeasts x = new HandBeasts();
        x.row(0, 0);
        x.mean(0);
        found(x, 4, 0, 0, 0, 1, 0);
        x.pose(0, NONE);
        x.odds(0, 0);
        found(x, 4, 0, 0, 0, 2, 0);
    }

    static void promise48SizeIs5() {
        HandBeasts x = new HandBeasts();
        x.row(0, -1);
        found(x, 5, 0, 0, 0, 0, 1);
        x.row(0, 9);
        x.sets(0);
        found(x, 5, 0, 0, 0, 0, 2);
    }

    static void promise48FindingIsTheLatest() {
        HandBeasts x = new HandBeasts();
        x.text(0, -1);
        x.tear(0);
        x.text(0, 0);
        x.put(0, 0, 1);
        found(x, 2, 1, 1, 0, 0, 1);
        x.tear(0);
        found(x, 1, 2, 1, 0, 0, 1);
    }

    static void promise48FindingStaysByOtherAnswers() {
        HandBeasts x = Scenes.spent();
        x.tear(5);
        int[] before = Kit.found(x);
        x.row(6, 0);
        x.many();
        x.row(0, 3);
        x.at(0, 0);
        Kit.text(x, 0, "h999");
        Kit.same("hands()", x.hands(0), HandBeasts.STATE);
        for (int l = 0; l < 9; l++) x.looker(1, 1, 1);
        Kit.same("finding()", x.finding(), before[0]);
        for (int f = 1; f <= 5; f++) Kit.same("findings(" + f + ")", x.findings(f), before[f]);
    }

    static void promise49FindingsOfTheFirstAndTheLast() {
        HandBeasts x = new HandBeasts();
        x.tear(0);
        x.row(0, -1);
        Kit.same("findings(1)", x.findings(1), 1);
        Kit.same("findings(5)", x.findings(5), 1);
    }

    // ---- an object is used for at most 512 calls

    static void promise49AnObjectsLastCallIsThe512th() {
        HandBeasts x = new HandBeasts();
        for (int n = 1; n < 512; n++) Kit.same("tear()", x.tear(n % 6), HandBeasts.FINDING);
        Kit.same("findings(1)", x.findings(1), 511);
    }

    static void promise50AnObjectsLastCallIsThe512th() {
        HandBeasts x = new HandBeasts();
        for (int n = 0; n < 6; n++) x.row(n, 40);
        for (int n = 6; n < 511; n++) Kit.same("lay()", x.lay(n % 6, n % 40, n), 1);
        long h = sum(17, 0, 0, 0, 0, 0, 0, 0, 0, 6, 0, 99, 133, -1, -1, -1, -1, -1, -1);
        for (int r = 0; r < 6; r++) {
            int[] places = new int[40];
            for (int n = 6; n < 511; n++) {
                if (n % 6 == r) places[n % 40] = n;
            }
            h = sum(sum(h, 40), places);
        }
        Kit.same("digest()", x.digest(), sum(h, -1, -1, -1, -1));
    }

    // ---- 50 digest()

    private static long sum(long h, int... all) {
        for (int v : all) h = 31 * h + v;
        return h;
    }

    static void promise50DigestOfANewObject() {
        int[] missing = new int[16];
        java.util.Arrays.fill(missing, -1);
        Kit.same("digest()", new HandBeasts().digest(), sum(sum(17, 0, 0, 0, 0, 0, 0, 0, 0, 0, 0, 99, 133), missing));
    }

    static void promise50DigestOfSome() {
        long h = sum(17, 2, 2, 2, 5, 3, 2, 2, 3, 5, 3, 3, 143);
        h = sum(h, 65, 11, 0, 0, 0, 1, 1, 4, 1, 1, 0, 2, 2, 1, 1, 1);
        h = sum(h, 1, 0, NONE, 0, 0, 4, 1, 0, 1, 0, 5, 2, NONE, -1, 1, 2, 2, NONE, 2, 0, 3, 1, NONE, 0, -1);
        h = sum(h, 0, 0, 0, 32, 32, 32, 0, 0, 0, 0, 0, 0, 0, 0, 0, 0, 0, 0, 0, 0, 0, -1, -1);
        h = sum(h, 2048, 0, 0, 64, 32, 32, 0, 0, 0, 0, 0, 0, 0, 0, 0, 0, 0, 0, 0, 0, 1, -1, -1);
        h = sum(h, 1, 1, 1, 2, 0, 5, 0, 0, 0, 0, 1, 3, 1, 0, 3);
        h = sum(h, 10, 0, 0, 0, 0, 0, 64, 0, 0, 0, 1 + 2048, 0, 9, 0, 0, 0, 0, 0, 0, 0, 0, 0);
        h = sum(h, 10, 0, 0, 0, 4096, 0, 0, 0, 0, 0, 0, 2, 0, 0, -1);
        h = sum(h, 14, 'h', '6', '5', 'f', '0', '2', '2', 'h', '1', '1', 'f', '4', '1', '1', 4, 'h', '5', 'f', '9', 0, -1);
        Kit.same("digest()", Scenes.some().digest(), h);
    }

    static void promise50DigestOfNumbersBelow0() {
        HandBeasts x = new HandBeasts();
        Kit.row(x, 0, LEAST, -1, MOST);
        x.text(0, 2);
        x.put(0, 0, -128);
        x.put(0, 1, 255);
        long h = sum(17, 0, 0, 0, 0, 0, 0, 0, 0, 1, 1, 99, 133, -1, -1, -1, -1, -1, -1);
        Kit.same("digest()", x.digest(), sum(h, 3, LEAST, -1, MOST, -1, -1, -1, -1, -1, 2, -128, -1, -1, -1, -1));
    }

    static void promise50DigestOfRowsAndTextsOfNone() {
        HandBeasts x = new HandBeasts();
        x.row(5, 0);
        x.text(3, 0);
        long h = sum(17, 0, 0, 0, 0, 0, 0, 0, 0, 1, 1, 99, 133, -1, -1, -1, -1, -1, -1);
        Kit.same("digest()", x.digest(), sum(h, -1, -1, -1, -1, -1, 0, -1, -1, -1, 0));
    }

    static void promise50DigestLeavesAsked() {
        HandBeasts x = Scenes.some();
        x.turn(0, 0);
        x.turn(3, 0);
        x.digest();
        Kit.same("asked()", x.asked(), 2);
    }

    static void promise50DigestChangesNothing() {
        HandBeasts x = Scenes.full();
        HandBeasts twin = Scenes.full();
        x.digest();
        x.digest();
        Kit.same("the object", Twins.portrait(x), Twins.portrait(twin));
    }
}

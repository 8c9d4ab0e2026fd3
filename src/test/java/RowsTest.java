/** Promises 1 to 9: a new object, ROWS and the bytes of TEXTS. */
final class RowsTest {
    private RowsTest() {
    }

    static void promise01ANewObject() {
        HandBeasts x = new HandBeasts();
        for (int what = 0; what <= 9; what++) Kit.same("count(" + what + ")", x.count(what), 0);
        Kit.same("asked()", x.asked(), 0);
        Kit.same("upper()", x.upper(), 0);
        Kit.same("lower()", x.lower(), 1);
        Kit.same("finding()", x.finding(), 0);
        for (int f = 1; f <= 5; f++) Kit.same("findings()", x.findings(f), 0);
        for (int r = 0; r < 6; r++) Kit.same("tear()", x.tear(r), HandBeasts.FINDING);
        for (int t = 0; t < 4; t++) Kit.same("fault()", x.fault(t), HandBeasts.FINDING);
        Kit.same("strain()", x.strain(99), 99);
        Kit.same("lamp()", x.lamp(1, 0, 0), 133);
        Kit.both(x, "many() of no JOINTS", x.many(), 1, 0);
    }

    static void promise01ObjectsAreApart() {
        HandBeasts a = new HandBeasts();
        HandBeasts b = new HandBeasts();
        Kit.row(a, 0, 1, 2);
        Kit.hands(a, "h5f011", 1);
        a.strain(3);
        a.looker(1, 2, 3);
        Kit.same("digest()", b.digest(), new HandBeasts().digest());
        Kit.finds(b, "at() of the other one's ROW", () -> b.at(0, 0), Kit.NOTHING);
    }

    static void promise02Row() {
        HandBeasts x = new HandBeasts();
        Kit.same("row(0, 3)", x.row(0, 3), 3);
        Kit.holds(x, "row(0, 3)", 0, 0, 0, 0);
        Kit.row(x, 0, 7, 8, 9);
        Kit.same("row(0, 2) anew", x.row(0, 2), 2);
        Kit.holds(x, "row(0, 2) anew", 0, 0, 0);
        Kit.same("row(0, 3) anew", x.row(0, 3), 3);
        Kit.holds(x, "row(0, 3) anew", 0, 0, 0, 0);
        Kit.same("row(5, 40)", x.row(5, 40), 40);
        Kit.tells(x, "at(5, 39)", x.at(5, 39), 0);
        Kit.same("row(5, 0)", x.row(5, 0), 0);
        Kit.finds(x, "at(5, 0)", () -> x.at(5, 0), Kit.BEYOND);
        Kit.same("count(8)", x.count(8), 2);
    }

    static void promise03Lay() {
        HandBeasts x = new HandBeasts();
        x.row(2, 3);
        Kit.tells(x, "lay(2, 0, 5)", x.lay(2, 0, 5), 0);
        Kit.tells(x, "lay(2, 0, -7)", x.lay(2, 0, -7), 5);
        Kit.tells(x, "lay(2, 0, the least)", x.lay(2, 0, Integer.MIN_VALUE), -7);
        Kit.tells(x, "lay(2, 2, the most)", x.lay(2, 2, Integer.MAX_VALUE), 0);
        Kit.holds(x, "lay()", 2, Integer.MIN_VALUE, 0, Integer.MAX_VALUE);
    }

    static void promise04At() {
        HandBeasts x = new HandBeasts();
        Kit.row(x, 3, 11, -12, 13);
        Kit.tells(x, "at(3, 0)", x.at(3, 0), 11);
        Kit.tells(x, "at(3, 1)", x.at(3, 1), -12);
        Kit.tells(x, "at(3, 2)", x.at(3, 2), 13);
        Kit.finds(x, "at(0, 0)", () -> x.at(0, 0), Kit.NOTHING);
        Kit.finds(x, "at(0, 9)", () -> x.at(0, 9), Kit.NOTHING);
        Kit.finds(x, "at(3, 3)", () -> x.at(3, 3), Kit.BEYOND);
        Kit.finds(x, "at(3, -1)", () -> x.at(3, -1), Kit.BEYOND);
    }

    static void promise05Tear() {
        HandBeasts x = new HandBeasts();
        Kit.row(x, 4, 1, 2);
        Kit.row(x, 5);
        Kit.same("tear(4)", x.tear(4), 1);
        Kit.same("count(8)", x.count(8), 1);
        Kit.finds(x, "at(4, 0)", () -> x.at(4, 0), Kit.NOTHING);
        Kit.finds(x, "tear(4) again", () -> x.tear(4), Kit.NOTHING);
        Kit.same("tear(5), of no places", x.tear(5), 1);
    }

    static void promise06Copy() {
        HandBeasts x = new HandBeasts();
        Kit.row(x, 0, 1, 2, 3, 4, 5);
        Kit.row(x, 1, 0, 0, 0);
        Kit.same("copy to another", x.copy(0, 2, 1, 1, 2), 1);
        Kit.holds(x, "copy to another", 1, 0, 3, 4);
        Kit.holds(x, "copy from it", 0, 1, 2, 3, 4, 5);
        Kit.same("copy on, to itself", x.copy(0, 0, 0, 1, 4), 1);
        Kit.holds(x, "copy on, to itself", 0, 1, 1, 2, 3, 4);
        Kit.same("copy back, to itself", x.copy(0, 2, 0, 0, 3), 1);
        Kit.holds(x, "copy back, to itself", 0, 2, 3, 4, 3, 4);
        Kit.same("copy none, at both sizes", x.copy(0, 5, 1, 3, 0), 1);
        Kit.same("copy all", x.copy(1, 0, 1, 0, 3), 1);
        Kit.holds(x, "copy all", 1, 0, 3, 4);
    }

    static void promise07Mean() {
        HandBeasts x = new HandBeasts();
        Kit.row(x, 0, 1, 2, 5);
        Kit.tells(x, "mean of 8 by 3", x.mean(0), 2);
        Kit.row(x, 0, -1, -2, -5);
        Kit.tells(x, "mean of -8 by 3", x.mean(0), -2);
        Kit.row(x, 0, 0, -1);
        Kit.tells(x, "mean of -1 by 2", x.mean(0), 0);
        Kit.row(x, 0, 9);
        Kit.tells(x, "mean of one", x.mean(0), 9);
        Kit.row(x, 0, Integer.MAX_VALUE, Integer.MAX_VALUE, Integer.MAX_VALUE);
        Kit.tells(x, "mean of the most", x.mean(0), Integer.MAX_VALUE);
        Kit.row(x, 0, Integer.MIN_VALUE, Integer.MIN_VALUE);
        Kit.tells(x, "mean of the least", x.mean(0), Integer.MIN_VALUE);
        Kit.row(x, 1);
        Kit.finds(x, "mean of none", () -> x.mean(1), Kit.NOUGHT);
        Kit.finds(x, "mean of a ROW that is missing", () -> x.mean(2), Kit.NOTHING);
    }

    static void promise08Text() {
        HandBeasts x = new HandBeasts();
        Kit.same("text(0, 4)", x.text(0, 4), 4);
        for (int i = 0; i < 4; i++) Kit.same("put over a blank", x.put(0, i, 104), 1032);
        Kit.same("text(0, 2) anew", x.text(0, 2), 2);
        for (int i = 0; i < 2; i++) Kit.same("put over a blank anew", x.put(0, i, 32), 1032);
        Kit.finds(x, "put behind it", () -> x.put(0, 2, 1), Kit.BEYOND);
        Kit.same("text(3, 80)", x.text(3, 80), 80);
        Kit.same("put(3, 79)", x.put(3, 79, 1), 1032);
        Kit.same("text(2, 0)", x.text(2, 0), 0);
        Kit.same("count(9)", x.count(9), 3);
        Kit.finds(x, "text(0, -1)", () -> x.text(0, -1), Kit.SIZE);
    }

    static void promise09Put() {
        HandBeasts x = new HandBeasts();
        x.text(1, 2);
        Kit.same("put(1, 0, 5)", x.put(1, 0, 5), 1032);
        Kit.same("put(1, 0, 127)", x.put(1, 0, 127), 1005);
        Kit.same("put(1, 0, 128)", x.put(1, 0, 128), 1127);
        Kit.same("put(1, 0, -129)", x.put(1, 0, -129), 872);
        Kit.same("put(1, 0, 256 + 32)", x.put(1, 0, 288), 1127);
        Kit.same("put(1, 0, -1)", x.put(1, 0, -1), 1032);
        Kit.same("put(1, 0, 0)", x.put(1, 0, 0), 999);
        Kit.same("put(1, 1, the least)", x.put(1, 1, Integer.MIN_VALUE), 1032);
        Kit.same("put(1, 1, 0)", x.put(1, 1, 0), 1000);
        Kit.same("asked() is not told", x.asked(), 0);
        Kit.finds(x, "put(0, 0, 1)", () -> x.put(0, 0, 1), Kit.NOTHING);
        Kit.finds(x, "put(0, -1, 1)", () -> x.put(0, -1, 1), Kit.NOTHING);
        Kit.finds(x, "put(1, 2, 1)", () -> x.put(1, 2, 1), Kit.BEYOND);
        Kit.finds(x, "put(1, -1, 1)", () -> x.put(1, -1, 1), Kit.BEYOND);
    }
}

/** Promises 24 to 29, 32, 33, 35, 36: BEASTS, and what HELD TURNS throw. */
final class BeastsTest {
    private static final int NONE = HandBeasts.NONE, SPENT = HandBeasts.SPENT;
    /** The WRIST at 5, 5; the FINGER: 5, 4, then by its turn -2 .. 2: 4, 4; 4, 3; 5, 3; 6, 3; 6, 4. */
    private static final String ONE = "h65f022";
    private static final String TOO_MANY = "h65f0222222f4222222";

    private BeastsTest() {
    }

    static void promise24Beast() {
        HandBeasts x = Kit.withHands(ONE, 1);
        Kit.pose(x, NONE, 1, 0);
        Kit.shadow(x, 0, 5, 5, 5, 4, 0, 0);
        Kit.shadow(x, 1, 5, 3);
        Kit.same("beast()", x.beast(0, 0, 1, 0), 3);
        Kit.both(x, "off()", x.off(0, 0), 1, 1);
        Kit.same("beast() of one ROW", x.beast(5, 1, 1, 1), 1);
        Kit.same("count(5)", x.count(5), 2);
        Kit.shadow(x, 0);
        Kit.shadow(x, 1);
        Kit.both(x, "off() by the numbers as they were", x.off(0, 0), 1, 1);
        Kit.same("beast() anew", x.beast(0, 0, 1, 1), 0);
        Kit.same("count(5)", x.count(5), 2);
        Kit.both(x, "off() by no CELLS", x.off(0, 0), 3, 0);
        Kit.row(x, 0, 4095, 4095, 4095, 4095, 4095, 4095, 4095, 4095, 4095, 4095);
        Kit.same("beast() of all CELLS", x.beast(0, 0, 1, 1), 120);
    }

    static void promise25Off() {
        HandBeasts x = Kit.withHands(ONE, 1);
        Kit.pose(x, NONE, 1, 0);
        x.strain(0);
        Kit.pose(x, NONE, 2, 1);
        Kit.shadow(x, 0, 5, 5, 5, 4, 0, 0, 11, 9);
        Kit.shadow(x, 1, 6, 3, 1, 1, 0, 0);
        x.beast(1, 0, 1, 0);
        Kit.both(x, "a HELD one: two MISSED, one OVER", x.off(0, 1), 3, 2);
        Kit.both(x, "a STRAINED one: two MISSED", x.off(1, 1), 2, 2);
        x.lamp(1, 1, 0);
        Kit.both(x, "by another LAMP: four MISSED, OVER but 6, 3", x.off(0, 1), 6, 4);
        x.lamp(2, 0, 0);
        Kit.both(x, "by a LAMP of z 2: 10, 6 to 11, 9", x.off(0, 1), 3 + 7, 3);
        x.lamp(1, 0, 0);
        Kit.shadow(x, 0, 0, 0, 1, 1, 2, 2);
        x.strain(99);
        x.help(0, 0);
        Kit.both(x, "with a CARD", x.off(0, 1), 3, 1);
        Kit.finds(x, "off(0, 0)", () -> x.off(0, 0), Kit.NOTHING);
    }

    static void promise26Many() {
        HandBeasts x = Kit.withHands("h17f022", 1);
        Kit.both(x, "all but two are BARRED", x.many(), 2, 0);
        x.strain(1);
        Kit.both(x, "these two are STRAINED", x.many(), 0, 2);
        Kit.hands(x, "h65f01122", 2);
        Kit.both(x, "of STRAIN 1", x.many(), 5, 10);
        x.strain(99);
        Kit.both(x, "of STRAIN 99", x.many(), 15, 0);
        Kit.hands(x, "h65h65", 0);
        Kit.both(x, "all are BARRED", x.many(), 0, 0);
        Kit.hands(x, "h65f0f011", 1);
        Kit.both(x, "all are BARRED", x.many(), 0, 0);
        Kit.hands(x, "h65f022h66f022", 2);
        Kit.both(x, "FINGERS that meet in 11 of 25", x.many(), 14, 0);
        Kit.hands(x, "h89f022h90f022", 2);
        Kit.both(x, "the same in the lower half", x.many(), 14, 0);
        Kit.hands(x, "h5f0h65f011", 1);
        Kit.both(x, "a FINGER that is out ahead of one that turns", x.many(), 0, 0);
        Kit.hands(x, "h65f011h5f0", 1);
        Kit.both(x, "a FINGER that is out behind one that turns", x.many(), 0, 0);
        Kit.hands(x, "h65", 0);
        Kit.both(x, "no JOINTS", x.many(), 1, 0);
    }

    static void promise26Spent() {
        HandBeasts x = Kit.withHands("h65f0212121f4212121", 6);
        if (x.many() < 0) throw new AssertionError("4096 TURNS are SPENT");
        Kit.hands(x, "h65f0222222f42222", 5);
        if (x.many() < 0) throw new AssertionError("3125 TURNS are SPENT");
        Kit.hands(x, "h65f0222121f4212121", 6);
        Kit.refused(x, "many() of 5120 TURNS", () -> x.many(), SPENT);
        Kit.hands(x, "h65f0222121f4212121h3", 6);
        Kit.refused(x, "many() of 5120 TURNS", () -> x.many(), SPENT);
        Kit.hands(x, "h65f0122221f4212121", 6);
        Kit.refused(x, "many() of 5120 TURNS", () -> x.many(), SPENT);
        Kit.hands(x, "h65f0221212f4121212", 6);
        Kit.refused(x, "many() of 5120 TURNS", () -> x.many(), SPENT);
        Kit.hands(x, TOO_MANY, 6);
        Kit.refused(x, "many() of 15625 TURNS", () -> x.many(), SPENT);
        Kit.hands(x, ONE, 1);
        Kit.both(x, "many() of few again", x.many(), 5, 0);
    }

    static void promise27Nearest() {
        HandBeasts x = Kit.withHands("h65f01122", 2);
        Kit.beast(x, 0, 0, 5, 5, 5, 4, 6, 3, 7, 4);
        Kit.same("nearest()", x.nearest(0, 0), 0);
        Kit.holds(x, "nearest()", 0, 1, 2);
        x.strain(2);
        Kit.same("nearest() of STRAIN 2", x.nearest(0, 0), 2);
        Kit.holds(x, "nearest() of STRAIN 2, ahead of 1, -1 and more", 0, 0, 2);
        x.strain(99);
        Kit.shadow(x, 3, 5, 5, 0, 0);
        Kit.row(x, 4, 4095, 4095, 4095, 4095, 4095, 4095, 4095, 4095, 4095, 4095);
        x.beast(1, 3, 4, 0);
        Kit.same("all are alike", x.nearest(1, 0), 1);
        Kit.holds(x, "the first of all", 0, -1, -2);
        x.strain(1);
        Kit.same("all are alike", x.nearest(1, 0), 1);
        Kit.holds(x, "the first of those HELD, by JOINT 0", 0, -1, 0);
        x.strain(99);
        x.lamp(1, 0, -1);
        Kit.beast(x, 2, 0, 5, 4, 5, 3, 4, 2, 4, 1);
        Kit.same("by the LAMP", x.nearest(2, 0), 0);
        Kit.holds(x, "by the LAMP", 0, -1, 1);
        Kit.hands(x, "h65", 0);
        Kit.same("no JOINTS", x.nearest(2, 1), 3);
        Kit.holds(x, "no JOINTS", 1);
    }

    static void promise28Never() {
        HandBeasts x = Kit.withHands(ONE, 1);
        Kit.beast(x, 0, 0, 5, 5, 4, 4, 5, 3, 0, 0, 11, 9);
        Kit.same("never()", x.never(0, 0), 2);
        Kit.holdsShadow(x, "never()", 0, 0, 0, 11, 9);
        x.strain(1);
        Kit.same("never() of STRAIN 1", x.never(0, 0), 3);
        Kit.holdsShadow(x, "never() of STRAIN 1", 0, 4, 4, 0, 0, 11, 9);
        x.strain(99);
        x.lamp(1, 1, 0);
        Kit.same("never() by a LAMP", x.never(0, 0), 4);
        Kit.holdsShadow(x, "never() by a LAMP", 0, 5, 5, 4, 4, 0, 0, 11, 9);
        Kit.hands(x, "h5f0", 0);
        Kit.same("never() of none HELD", x.never(0, 0), 5);
        Kit.holdsShadow(x, "never() of none HELD", 0, 5, 5, 4, 4, 5, 3, 0, 0, 11, 9);
        Kit.finds(x, "never(1, 0)", () -> x.never(1, 0), Kit.NOTHING);
        Kit.hands(x, TOO_MANY, 6);
        Kit.finds(x, "NOTHING ahead of SPENT", () -> x.never(1, 0), Kit.NOTHING);
        Kit.refused(x, "SPENT", () -> x.never(0, 0), SPENT);
    }

    static void promise29Sets() {
        HandBeasts x = Kit.withHands(ONE, 1);
        Kit.shadow(x, 0, 5, 5, 5, 4, 6, 3);
        Kit.both(x, "sets() of one", x.sets(0), 1, 1);
        x.strain(0);
        Kit.both(x, "sets() of none HELD so", x.sets(0), 0, 1);
        x.strain(99);
        // by this LAMP only the WRIST and what goes up from it stay on the SHEET
        Kit.hands(x, "h68f211f011", 2);
        x.lamp(1, 3, 0);
        Kit.shadow(x, 0, 11, 5, 11, 4, 10, 3);
        Kit.both(x, "sets() of three", x.sets(0), 3, 2);
        x.strain(1);
        Kit.both(x, "sets() of STRAIN 1", x.sets(0), 1, 3);
        x.strain(99);
        Kit.shadow(x, 0, 11, 5, 11, 4);
        Kit.both(x, "sets() of three others", x.sets(0), 3, 2);
        Kit.shadow(x, 0, 11, 5);
        Kit.both(x, "sets() of none", x.sets(0), 0, 3);
        Kit.hands(x, "h68f211", 1);
        Kit.both(x, "sets() of all", x.sets(0), 3, 0);
        Kit.hands(x, "h68f210", 1);
        Kit.both(x, "sets() of two", x.sets(0), 2, 0);
        Kit.hands(x, "h68f011f211", 2);
        Kit.shadow(x, 1, 11, 5, 11, 4, 10, 3);
        Kit.both(x, "sets() of three, alike by JOINT 0", x.sets(1), 3, 1);
        Kit.hands(x, "", 0);
        Kit.both(x, "sets() of no JOINTS", x.sets(0), 0, 0);
        Kit.shadow(x, 0);
        Kit.both(x, "sets() of no JOINTS", x.sets(0), 1, 0);
    }

    static void promise32Where() {
        HandBeasts x = Kit.withHands("h65", 0);
        Kit.pose(x, NONE, 1);
        Kit.beast(x, 0, 0, 7, 2);
        Kit.both(x, "where()", x.where(0, 0), 0, 150);
        Kit.beast(x, 1, 0, 0, 0);
        Kit.both(x, "least by losing all, by dx ahead of dy", x.where(0, 1), 1, 203);
        Kit.beast(x, 2, 0, 7, 7, 8, 7, 7, 8, 8, 8);
        Kit.both(x, "of z 2", x.where(0, 2), 0, 200);
        Kit.beast(x, 3, 0, 2, 2);
        Kit.both(x, "by the first LAMP", x.where(0, 3), 0, 100);
        x.lamp(2, 1, 2);
        Kit.both(x, "whatever the LAMP is", x.where(0, 0), 0, 150);
        Kit.same("the LAMP stays", x.lamp(2, 1, 2), 245);
        Kit.shadow(x, 0, 0, 0);
        x.help(0, 0);
        Kit.both(x, "with its CARD", x.where(0, 1), 0, 203);
        Kit.both(x, "z 1 ahead of z 2, dx ahead of dy: the CARD is OVER", x.where(0, 0), 1, 150);
        Kit.finds(x, "where(0, 4)", () -> x.where(0, 4), Kit.NOTHING);
        Kit.hands(x, "h13", 0);
        Kit.pose(x, NONE, 1);
        Kit.beast(x, 3, 0, 0, 0, 1, 0, 2, 0, 0, 1, 1, 1, 2, 1, 0, 2, 1, 2, 2, 2);
        Kit.both(x, "never larger than z 2", x.where(0, 3), 5, 211);
        Kit.hands(x, TOO_MANY, 6);
        Kit.pose(x, NONE, 1, 0, 0, 0, 0, 0, 0);
        Kit.both(x, "never SPENT", x.where(0, 1), 1, 250);
    }

    static void promise33Picture() {
        HandBeasts x = Kit.withHands(ONE, 1);
        Kit.shadow(x, 0, 6, 6, 6, 5, 7, 4);
        Kit.both(x, "picture() by LAMP 1, 1, 1", x.picture(0), 144, 1);
        x.strain(0);
        Kit.refused(x, "picture() of none HELD so", () -> x.picture(0), NONE);
        x.strain(99);
        x.lamp(2, 1, 2);
        Kit.both(x, "whatever the LAMP is", x.picture(0), 144, 1);
        Kit.same("the LAMP stays", x.lamp(2, 1, 2), 245);
        Kit.hands(x, "h68f211", 1);
        Kit.shadow(x, 0, 11, 5);
        Kit.both(x, "picture() of three", x.picture(0), 163, 3);
        Kit.hands(x, "h65", 0);
        Kit.shadow(x, 0, 7, 7, 8, 7, 7, 8, 8, 8);
        Kit.both(x, "picture() of z 2", x.picture(0), 200, 1);
        Kit.shadow(x, 0);
        Kit.both(x, "picture() of nothing, by dx ahead of dy", x.picture(0), 203, 1);
        Kit.shadow(x, 0, 7, 7, 8, 7, 7, 8);
        Kit.refused(x, "picture() of no HANDS", () -> x.picture(0), NONE);
        Kit.hands(x, "h5f0", 0);
        Kit.shadow(x, 0, 5, 0);
        Kit.refused(x, "picture() of what is BARRED", () -> x.picture(0), NONE);
        Kit.hands(x, "h65", 0);
        Kit.shadow(x, 0, 2, 2);
        Kit.both(x, "picture() by the first LAMP", x.picture(0), 100, 1);
        Kit.hands(x, "h13", 0);
        Kit.shadow(x, 0, 0, 0, 1, 0, 2, 0, 0, 1, 1, 1, 2, 1, 0, 2, 1, 2, 2, 2);
        Kit.refused(x, "picture() of z 3", () -> x.picture(0), NONE);
        Kit.hands(x, "h5f4h65f0", 0);
        Kit.shadow(x, 0, 5, 0, 5, 1, 5, 5, 5, 4);
        Kit.both(x, "picture() of two HANDS", x.picture(0), 133, 1);
    }

    static void promise35Two() {
        // HAND 1: the WRIST at 8, 1; the FINGER: 8, 2, then by its turn -1 .. 1: 9, 3; 8, 3; 7, 3
        HandBeasts x = Kit.withHands("h65f022h20f411", 2);
        Kit.beast(x, 0, 0, 5, 5, 5, 4, 5, 3);
        Kit.beast(x, 1, 0, 8, 1, 8, 2, 7, 3);
        Kit.beast(x, 2, 0, 8, 1, 8, 2, 7, 3, 0, 0);
        Kit.both(x, "straight", x.two(0, 1), 0, 0);
        Kit.both(x, "crossed", x.two(1, 0), 1, 0);
        Kit.both(x, "one is off", x.two(2, 0), 1, 1);
        Kit.both(x, "both alike", x.two(0, 0), 0, 6);
        x.strain(0);
        Kit.both(x, "HAND 1 is strained", x.two(0, 1), 0, 2);
        x.strain(99);
        x.lamp(1, 1, 0);
        Kit.both(x, "by the LAMP", x.two(0, 1), 0, 10);
        Kit.both(x, "many() thereafter", x.many(), 15, 0);
    }

    static void promise35TwoAlone() {
        HandBeasts x = Kit.withHands("h65f011h65f011", 2);
        Kit.beast(x, 0, 0, 5, 5, 5, 4, 5, 3);
        Kit.beast(x, 1, 0, 5, 5, 5, 4, 4, 3);
        Kit.both(x, "all TURNS are BARRED", x.many(), 0, 0);
        Kit.both(x, "not so each HAND alone", x.two(0, 1), 0, 0);
        x.strain(1);
        Kit.both(x, "each HAND has the STRAIN alone", x.two(1, 1), 0, 0);
        x.strain(0);
        Kit.both(x, "each HAND has no STRAIN alone", x.two(1, 1), 0, 4);
        Kit.both(x, "all TURNS are BARRED still", x.many(), 0, 0);
        Kit.hands(x, "h65h5f0", 0);
        Kit.refused(x, "HAND 1 is BARRED", () -> x.two(0, 1), NONE);
        Kit.hands(x, "h5f0h65", 0);
        Kit.refused(x, "HAND 0 is BARRED", () -> x.two(0, 1), NONE);
    }

    static void promise36Stiff() {
        HandBeasts x = Kit.withHands(ONE, 1);
        Kit.beast(x, 0, 0, 5, 5, 5, 4, 6, 4);
        Kit.beast(x, 1, 0, 5, 5, 5, 4, 5, 3);
        Kit.beast(x, 2, 0, 5, 5, 5, 4, 6, 4, 0, 0);
        Kit.both(x, "stiff() by two", x.stiff(0, 0), 2, 2);
        Kit.both(x, "stiff() by none", x.stiff(0, 1), 0, 0);
        Kit.both(x, "stiff() from 1 to 3", x.stiff(0, 2), 2, 3);
        x.strain(1);
        Kit.both(x, "stiff() of STRAIN 1", x.stiff(0, 0), 0, 2);
        x.strain(99);
        x.lamp(1, 1, 1);
        Kit.beast(x, 3, 0, 6, 6, 6, 5, 7, 5);
        Kit.both(x, "stiff() by the LAMP", x.stiff(0, 3), 2, 2);
        x.lamp(1, 0, 0);
        Kit.hands(x, "h65f02222", 2);
        Kit.beast(x, 3, 0, 5, 5, 5, 4, 6, 4, 6, 5);
        Kit.both(x, "JOINT 0 of two", x.stiff(0, 3), 4, 4);
        Kit.both(x, "JOINT 1 of two", x.stiff(1, 3), 2, 2);
        Kit.hands(x, "h17f022", 1);
        Kit.refused(x, "none is HELD so", () -> x.stiff(0, 0), NONE);
        Kit.finds(x, "stiff(0, 5)", () -> x.stiff(0, 5), Kit.NOTHING);
        Kit.hands(x, TOO_MANY, 6);
        Kit.finds(x, "NOTHING ahead of SPENT", () -> x.stiff(0, 5), Kit.NOTHING);
        Kit.refused(x, "SPENT", () -> x.stiff(0, 0), SPENT);
    }
}

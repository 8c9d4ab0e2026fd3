/** Promises 10 to 15: HANDS by TEXTS, STRAIN, the LAMP. */
final class HandsTest {
    private HandsTest() {
    }

    private static void fault(String signs, int place) {
        HandBeasts x = new HandBeasts();
        Kit.text(x, 0, signs);
        Kit.same("fault of '" + signs + "'", x.fault(0), place);
        long before = x.digest();
        if (place == HandBeasts.NONE) return;
        Kit.refused(x, "hands of '" + signs + "'", () -> x.hands(0), HandBeasts.STATE);
        Kit.same("digest()", x.digest(), before);
    }

    private static void noFault(String signs) {
        fault(signs, HandBeasts.NONE);
    }

    static void promise10NoFault() {
        noFault("");
        noFault("   ");
        noFault("h0");
        noFault("h119");
        noFault("h5h5");
        noFault(" h5 h007 ");
        noFault("h007f0");
        noFault("h1f0f1f2f3f4f5");
        noFault("h1f7f6");
        noFault("h1f0001122");
        noFault("h1f0222222f1222222f2h3f4 f5 f6");
        noFault("h012f0  f1 h3f5");
    }

    static void promise10FaultOfHands() {
        fault("x", 0);
        fault("5", 0);
        fault("  H5", 2);
        fault("h", 1);
        fault("h ", 1);
        fault("h 5", 1);
        fault("hf", 1);
        fault("h120", 4);
        fault("h999 ", 4);
        fault("h1200", 4);
        fault("h0119", 4);
        fault("h11 9", 4);
        fault("h1h2h3", 4);
        fault("h1h2 h", 5);
        fault("h1h2h999", 4);
        fault("h1-", 2);
        fault("h1/", 2);
        fault("h1:", 2);
        fault("h:", 1);
    }

    static void promise10FaultOfFingers() {
        fault("f0", 0);
        fault(" f0h1", 1);
        fault("h1f", 3);
        fault("h1f ", 3);
        fault("h1f8", 3);
        fault("h1f9", 3);
        fault("h1ff", 3);
        fault("h1f0f1f2f3f4f5f6", 14);
        fault("h1f0f1f2h2f3f4f5f", 16);
    }

    static void promise10FaultOfJoints() {
        fault("h1f01", 5);
        fault("h1f01 1", 5);
        fault("h1f01f", 5);
        fault("h1f03", 4);
        fault("h1f030", 4);
        fault("h1f013", 5);
        fault("h1f0119", 6);
        noFault("h1f01122");
        fault("h1f0112", 7);
        fault("h1f01111111", 10);
        fault("h1f0111111 1", 11);
        fault("h1f01111113", 10);
        fault("h1f0111111f1111111f211", 20);
        fault("h1f0111111f1111111f21", 20);
        fault("h1f0111111f1111111f29", 20);
        fault("h1f01111f11111f21111h2f011", 24);
        fault("h1f011 x", 7);
    }

    static void promise10FaultOfBytes() {
        HandBeasts x = new HandBeasts();
        Kit.text(x, 0, "h1 h2");
        x.put(0, 2, -32);
        Kit.same("fault of a byte below 0", x.fault(0), 2);
        x.put(0, 2, 32);
        Kit.same("fault of a blank again", x.fault(0), HandBeasts.NONE);
        x.put(0, 2, 9);
        Kit.same("fault of another white sign", x.fault(0), 2);
    }

    static void promise11Hands() {
        HandBeasts x = new HandBeasts();
        Kit.hands(x, "h65f01122f3", 2);
        Kit.same("count(0)", x.count(0), 1);
        Kit.same("count(1)", x.count(1), 2);
        Kit.same("count(2)", x.count(2), 2);
        Kit.hands(x, " h65f0 h3f1001122f2111111", 6);
        Kit.same("count(0)", x.count(0), 2);
        Kit.same("count(1)", x.count(1), 3);
        Kit.same("count(2)", x.count(2), 6);
        Kit.hands(x, "", 0);
        Kit.same("count(0)", x.count(0), 0);
        Kit.same("count(1)", x.count(1), 0);
        Kit.same("count(2)", x.count(2), 0);
        Kit.hands(x, "h119", 0);
        Kit.both(x, "many()", x.many(), 1, 0);
    }

    static void promise11HandsAnew() {
        HandBeasts x = Kit.withHands("h65f01122", 2);
        x.strain(4);
        x.lamp(2, 1, 1);
        Kit.pose(x, HandBeasts.NONE, 1, 0, 0);
        Kit.pose(x, 0, 4, 0, 0);
        Kit.beast(x, 2, 1, 5, 5);
        x.looker(1, 2, 3);
        Kit.same("call()", x.call(0, 1, 2), 0);
        Kit.hands(x, "h65f01122", 2);
        Kit.same("POSES are gone", x.count(3), 0);
        Kit.same("CALLS are gone", x.count(7), 0);
        Kit.same("BEASTS stay", x.count(5), 1);
        Kit.same("LOOKERS stay", x.count(6), 1);
        Kit.same("STRAIN stays", x.strain(4), 4);
        Kit.same("the LAMP stays", x.lamp(2, 1, 1), 244);
    }

    static void promise12Finger() {
        HandBeasts x = Kit.withHands("h65f3f01122f7h3f112f5", 3);
        int[][] due = {{0, 3, 0, 0}, {0, 0, 0, 2}, {0, 7, 2, 0}, {1, 1, 2, 1}, {1, 5, 3, 0}};
        for (int f = 0; f < 5; f++) {
            for (int what = 0; what < 4; what++) {
                Kit.tells(x, "finger(" + f + ", " + what + ")", x.finger(f, what), due[f][what]);
            }
        }
    }

    static void promise13Joint() {
        HandBeasts x = Kit.withHands("h65f3f01022f7h3f102", 3);
        int[][] due = {{1, 1, 0}, {1, 2, 2}, {3, 0, 2}};
        for (int j = 0; j < 3; j++) {
            for (int what = 0; what < 3; what++) {
                Kit.tells(x, "joint(" + j + ", " + what + ")", x.joint(j, what), due[j][what]);
            }
        }
    }

    static void promise14Strain() {
        HandBeasts x = Kit.withHands("h65f02222", 2);
        Kit.same("strain(0)", x.strain(0), 99);
        Kit.both(x, "many() of STRAIN 0", x.many(), 1, 24);
        Kit.same("strain(1)", x.strain(1), 0);
        Kit.both(x, "many() of STRAIN 1", x.many(), 5, 20);
        Kit.same("strain(99)", x.strain(99), 1);
        Kit.both(x, "many() of STRAIN 99", x.many(), 25, 0);
        Kit.same("strain(99) again", x.strain(99), 99);
    }

    static void promise15Lamp() {
        HandBeasts x = new HandBeasts();
        Kit.same("lamp(2, -3, 3)", x.lamp(2, -3, 3), 133);
        Kit.same("lamp(1, 3, -3)", x.lamp(1, 3, -3), 206);
        Kit.same("lamp(1, 3, -3) again", x.lamp(1, 3, -3), 160);
        Kit.same("lamp(1, 0, 0)", x.lamp(1, 0, 0), 160);
    }
}

/** Section 1 and promises 10 to 15: HANDS by TEXTS and their FAULTS, STRAIN, the LAMP, at each bound. */
final class EdgesOfHandsTest {
    private static final int NONE = HandBeasts.NONE;

    private EdgesOfHandsTest() {
    }

    /** The FAULT is at this place; then the TEXT makes no HANDS, else it does. */
    private static void fault(String signs, int place) {
        HandBeasts x = new HandBeasts();
        Kit.text(x, 0, signs);
        Kit.same("fault() of '" + signs + "'", x.fault(0), place);
        int answer = x.hands(0);
        if (place != NONE) Kit.same("hands() of '" + signs + "'", answer, HandBeasts.STATE);
        else if (answer < 0) throw new AssertionError("hands() of '" + signs + "' answered " + answer);
    }

    private static void noFault(String... all) {
        for (String signs : all) fault(signs, NONE);
    }

    /** The TEXT makes HANDS of so many HANDS, FINGERS, JOINTS. */
    private static HandBeasts counted(String signs, int hands, int fingers, int joints) {
        HandBeasts x = Kit.withHands(signs, joints);
        Kit.same("HANDS of " + signs, x.count(0), hands);
        Kit.same("FINGERS of " + signs, x.count(1), fingers);
        Kit.same("JOINTS of " + signs, x.count(2), joints);
        return x;
    }

    private static String blanks(int n) {
        return " ".repeat(n);
    }

    // ---- blanks

    static void promise10NoItemsAtAll() {
        noFault("");
        counted("", 0, 0, 0);
    }

    static void promise10BlanksAlone() {
        noFault(" ", blanks(79), blanks(80));
        counted(blanks(80), 0, 0, 0);
    }

    static void promise10BlanksAhead() {
        counted(" h5", 1, 0, 0);
        counted(blanks(78) + "h5", 1, 0, 0);
    }

    static void promise10BlanksBehind() {
        counted("h5 ", 1, 0, 0);
        counted("h5f022" + blanks(74), 1, 1, 1);
    }

    static void promise10BlanksBetween() {
        counted("h5 f0 f1 h7 f2", 2, 3, 0);
        counted("h5" + blanks(30) + "f011" + blanks(30) + "h7 f2", 2, 2, 1);
    }

    static void promise10NoBlanksBetween() {
        counted("h5f0f1h7f2", 2, 3, 0);
        counted("h1h2", 2, 0, 0);
    }

    static void promise10NoBlankWithinAHand() {
        fault("h 5", 1);
        fault("h1 1", 3);
        fault("h11 9", 4);
    }

    static void promise10NoBlankWithinAFinger() {
        fault("h5f 0", 3);
        fault("h5f0 11", 5);
        fault("h5f01 1", 5);
        fault("h5f011 1", 7);
    }

    static void promise10OtherSignsAreNoBlanks() {
        for (int sign : new int[] {0, 9, 10, 13, 31, 33, 95, 160, -96, -128, 127, -1}) {
            HandBeasts x = new HandBeasts();
            Kit.text(x, 0, "h5 h7");
            x.put(0, 2, sign);
            Kit.same("fault() with sign " + sign, x.fault(0), 2);
        }
    }

    // ---- letters

    static void promise10LettersAreJust104And102() {
        for (int sign = -128; sign < 128; sign++) {
            HandBeasts x = new HandBeasts();
            Kit.text(x, 0, "h5f0");
            x.put(0, 2, sign);
            // behind a blank the 0 is of no item; with a figure the CELL is 500 or more, the place behind it is 4
            int due = sign == 'f' || sign == 'h' ? NONE : sign == ' ' ? 3 : sign >= '0' && sign <= '9' ? 4 : 2;
            Kit.same("fault() with sign " + sign, x.fault(0), due);
        }
    }

    static void promise10ASignOf104And256IsAnH() {
        HandBeasts x = new HandBeasts();
        x.text(0, 4);
        x.put(0, 0, 104 + 256);
        x.put(0, 1, '5' - 256);
        x.put(0, 2, 102 - 512);
        x.put(0, 3, '0' + 1024);
        Kit.same("fault()", x.fault(0), NONE);
        Kit.same("hands()", x.hands(0), 0);
        Kit.same("FINGERS", x.count(1), 1);
    }

    // ---- h and its CELL

    static void promise10HandsAre2AtMost() {
        counted("h1h2", 2, 0, 0);
        fault("h1h2h3", 4);
        fault("h1 h2 h", 6);
        fault("h1h2h999", 4);
    }

    static void promise10CellOfOneToThreeFigures() {
        noFault("h5", "h05", "h005", "h0", "h00", "h000");
        for (String signs : new String[] {"h7", "h07", "h007"}) {
            Kit.same("the WRIST of " + signs, wristOf(signs), 7);
        }
    }

    static void promise10CellOfNoFigures() {
        fault("h", 1);
        fault("hx", 1);
        fault("hh5", 1);
        fault("hf0", 1);
        fault("h5h", 3);
    }

    static void promise10CellOfAFourthFigure() {
        fault("h0005", 4);
        fault("h1190", 4);
        fault("h0000", 4);
    }

    static void promise10CellUpTo119() {
        noFault("h0", "h118", "h119", "h0f2", "h119f6");
        Kit.same("the WRIST", wristOf("h0"), 0);
        Kit.same("the WRIST", wristOf("h119"), 119);
    }

    static void promise10CellOutOfTheseIsAFaultBehindIt() {
        fault("h120", 4);
        fault("h121", 4);
        fault("h999", 4);
        fault("h120f0", 4);
        fault("h120 ", 4);
        fault("h5h200", 6);
        fault("h1200", 4);
    }

    static void promise10FiguresAreJust48To57() {
        fault("h/", 1);
        fault("h:", 1);
        fault("h5/", 2);
        fault("h5:", 2);
        noFault("h0", "h9");
        HandBeasts x = new HandBeasts();
        Kit.text(x, 0, "h5");
        x.put(0, 1, '5' + 128);
        Kit.same("fault() of a byte below 0", x.fault(0), 1);
    }

    private static int wristOf(String signs) {
        HandBeasts x = Kit.withHands(signs, 0);
        Kit.pose(x, NONE, 1);
        x.shape(0, 0);
        for (int c = 0; c < 120; c++) {
            x.at(0, c / 12);
            if (x.asked() == 1 << c % 12) return c;
        }
        return -1;
    }

    static void promise10CellsAreXByModuloAndYByDivision() {
        for (int c = 0; c < 120; c++) {
            HandBeasts x = Kit.withHands("h" + c, 0);
            Kit.pose(x, NONE, 1);
            Kit.same("shape()", x.shape(0, 0), 1);
            Kit.holdsShadow(x, "CELL " + c, 0, c - 12 * (c / 12), c / 12);
        }
    }

    // ---- f and its SIDE

    static void promise10FingerAheadOfAnyHand() {
        fault("f0", 0);
        fault(" f0h1", 1);
        fault("f", 0);
    }

    static void promise10FingersAre6AtMost() {
        counted("h1f0f1f2f3f4f5", 1, 6, 0);
        fault("h1f0f1f2f3f4f5f6", 14);
        fault("h1f0f1f2f3f4f5f", 14);
    }

    static void promise10FingersAre6AtMostOfBothHands() {
        counted("h1f0f1f2h2f3f4f5", 2, 6, 0);
        fault("h1f0f1f2h2f3f4f5f6", 16);
        fault("h1f0f1f2f3f4f5h2f6", 16);
    }

    static void promise10FingerOfSide0To7() {
        for (int s = 0; s < 8; s++) noFault("h5f" + s);
        fault("h5f8", 3);
        fault("h5f9", 3);
    }

    static void promise10FingerOfNoSide() {
        fault("h5f", 3);
        fault("h5f ", 3);
        fault("h5fx", 3);
        fault("h5ff0", 3);
        fault("h5fh6", 3);
        fault("h5f/", 3);
        fault("h5f:", 3);
    }

    // ---- pairs

    static void promise10FingerOfNoneToThreePairs() {
        counted("h5f0", 1, 1, 0);
        counted("h5f011", 1, 1, 1);
        counted("h5f01122", 1, 1, 2);
        counted("h5f0112200", 1, 1, 3);
    }

    static void promise10FigureBehindThreePairs() {
        fault("h5f01122001", 10);
        fault("h5f011220012", 10);
        fault("h5f01122009", 10);
        fault("h5f0112200f11", 13);
    }

    static void promise10TurnsOf0To2() {
        noFault("h5f000", "h5f002", "h5f020", "h5f022");
    }

    static void promise10FirstTurnThatIsNone() {
        for (int v = 3; v < 10; v++) fault("h5f0" + v + "1", 4);
        fault("h5f0113", 6);
        fault("h5f0112231", 8);
    }

    static void promise10SecondTurnThatIsNone() {
        for (int v = 3; v < 10; v++) fault("h5f01" + v, 5);
        fault("h5f01113", 7);
        fault("h5f0111113", 9);
    }

    static void promise10PairThatLacksItsSecondFigure() {
        fault("h5f01 ", 5);
        fault("h5f01f0", 5);
        fault("h5f01h6", 5);
        fault("h5f01x", 5);
        fault("h5f0112", 7);
        fault("h5f0112 2", 7);
    }

    static void promise10JointsAre6AtMost() {
        counted("h5f0111111f2111111", 1, 2, 6);
        fault("h5f0111111f2111111f411", 20);
        fault("h5f0111111f2111111f41", 20);
        fault("h5f0111111f2111111f49", 20);
    }

    static void promise10JointsAre6AtMostOfBothHands() {
        counted("h5f0111111h6f21111f411", 2, 3, 6);
        fault("h5f0111111h6f21111f41111", 22);
    }

    static void promise10FingersBehindTheSixthJoint() {
        counted("h5f0111111f2111111f4f6h7f1", 2, 5, 6);
    }

    // ---- the TEXT's size

    static void promise10EndTooEarlyBehindALetter() {
        fault("h", 1);
        fault("h5 h", 4);
        fault("h5f", 3);
        fault("h5f0f", 5);
    }

    static void promise10EndTooEarlyWithinAPair() {
        fault("h5f01", 5);
        fault("h5f0111", 7);
        fault("h5f011111", 9);
    }

    static void promise10EndTooEarlyOf80() {
        fault(blanks(79) + "h", 80);
        fault("h5" + blanks(77) + "f", 80);
        fault("h5" + blanks(75) + "f01", 80);
    }

    static void promise10LastOf80() {
        fault(blanks(79) + "x", 79);
        fault("h5" + blanks(77) + "h", 80);
        fault("h5h6" + blanks(75) + "h", 79);
        noFault(blanks(78) + "h0", "h5" + blanks(76) + "f0", "h5" + blanks(74) + "f011");
        counted("h5" + blanks(74) + "f022", 1, 1, 1);
    }

    static void promise10TheFirstFaultOfMore() {
        fault("h5f9x", 3);
        fault("xh5f9", 0);
        fault("h120h3h3", 4);
        fault("h5f01x h999", 5);
    }

    static void promise10FaultMakesNoHands() {
        HandBeasts x = Kit.withHands("h5f011", 1);
        Kit.pose(x, NONE, 3, 0);
        Kit.text(x, 0, "h6h7f2");
        Kit.same("fault()", x.fault(0), NONE);
        Kit.text(x, 1, "h6h7f2x");
        Kit.same("fault()", x.fault(1), 6);
        Kit.same("HANDS", x.count(0), 1);
        Kit.same("JOINTS", x.count(2), 1);
        Kit.same("POSES", x.count(3), 1);
    }

    // ---- 11 hands()

    static void promise11NoHandsAtFirst() {
        HandBeasts x = new HandBeasts();
        Kit.same("HANDS", x.count(0), 0);
        Kit.same("POSE of no TURNS", Kit.pose(x, NONE, 1), 0);
        Kit.same("mark()", x.mark(0, 1), 0);
    }

    static void promise11HandsOfEachText() {
        for (int t = 0; t < 4; t++) {
            HandBeasts x = new HandBeasts();
            Kit.text(x, t, "h5f011");
            Kit.same("hands(" + t + ")", x.hands(t), 1);
        }
    }

    static void promise11HandsOfNoItems() {
        HandBeasts x = Kit.withHands("h65f022h7", 1);
        x.text(0, 0);
        Kit.same("hands()", x.hands(0), 0);
        Kit.same("HANDS", x.count(0), 0);
        Kit.same("FINGERS", x.count(1), 0);
        Kit.same("JOINTS", x.count(2), 0);
    }

    static void promise11PosesAndCallsGo() {
        HandBeasts x = Scenes.full();
        Kit.text(x, 0, Scenes.TWO_HANDS);
        Kit.same("hands()", x.hands(0), 2);
        Kit.same("POSES", x.count(3), 0);
        Kit.same("HELD ones", x.count(4), 0);
        Kit.same("CALLS", x.count(7), 0);
        Kit.same("BEASTS", x.count(5), 6);
        Kit.same("LOOKERS", x.count(6), 8);
        Kit.same("POSES are 0, 1, .. again", Kit.pose(x, NONE, 1, 0, 0), 0);
        Kit.same("CALLS are 0, 1, .. again", x.call(7, 0, 5), 0);
    }

    static void promise11HandsStayWhenTheTextIsAnother() {
        HandBeasts x = Kit.withHands("h65f022", 1);
        x.text(3, 0);
        Kit.same("HANDS", x.count(0), 1);
        Kit.same("JOINTS", x.count(2), 1);
        Kit.both(x, "many()", x.many(), 5, 0);
    }

    // ---- 12 finger(), 13 joint()

    private static final String SIX_FINGERS = "h65f1f30221h7f5f71200f0f122";

    static void promise12FingersAsTheyCome() {
        HandBeasts x = counted(SIX_FINGERS, 2, 6, 5);
        int[][] due = {{0, 1, 0, 0}, {0, 3, 0, 2}, {1, 5, 2, 0}, {1, 7, 2, 2}, {1, 0, 4, 0}, {1, 1, 4, 1}};
        for (int f = 0; f < 6; f++) {
            for (int what = 0; what < 4; what++) Kit.tells(x, "finger(" + f + ", " + what + ")", x.finger(f, what), due[f][what]);
        }
    }

    static void promise12FirstJointOfOneThatHasNoneBehindAll() {
        HandBeasts x = counted("h65f0111111f2111111f4", 1, 3, 6);
        Kit.tells(x, "finger(2, 2)", x.finger(2, 2), 6);
        Kit.tells(x, "finger(2, 3)", x.finger(2, 3), 0);
    }

    static void promise12FingerOfTheHandToldLast() {
        HandBeasts x = counted("h65h7f0", 2, 1, 0);
        Kit.tells(x, "finger(0, 0)", x.finger(0, 0), 1);
    }

    static void promise13JointsAsTheyCome() {
        HandBeasts x = Kit.withHands(SIX_FINGERS, 5);
        int[][] due = {{1, 0, 2}, {1, 2, 1}, {3, 1, 2}, {3, 0, 0}, {5, 2, 2}};
        for (int j = 0; j < 5; j++) {
            for (int what = 0; what < 3; what++) Kit.tells(x, "joint(" + j + ", " + what + ")", x.joint(j, what), due[j][what]);
        }
    }

    static void promise13SixthJoint() {
        HandBeasts x = Kit.withHands("h65f0000102f2101112", 6);
        int[][] due = {{0, 0, 0}, {0, 0, 1}, {0, 0, 2}, {1, 1, 0}, {1, 1, 1}, {1, 1, 2}};
        for (int j = 0; j < 6; j++) {
            for (int what = 0; what < 3; what++) Kit.tells(x, "joint(" + j + ", " + what + ")", x.joint(j, what), due[j][what]);
        }
    }

    // ---- 14 strain(), 15 lamp()

    static void promise14StrainIs99AtFirst() {
        Kit.same("strain()", new HandBeasts().strain(5), 99);
    }

    static void promise14StrainOf0And99() {
        HandBeasts x = new HandBeasts();
        Kit.same("strain(0)", x.strain(0), 99);
        Kit.same("strain(99)", x.strain(99), 0);
        Kit.same("strain(1)", x.strain(1), 99);
        Kit.same("strain(98)", x.strain(98), 1);
        Kit.same("strain(98)", x.strain(98), 98);
    }

    static void promise15LampIsOfZ1At00AtFirst() {
        Kit.same("lamp()", new HandBeasts().lamp(2, 3, 3), 133);
    }

    static void promise15LampsAll() {
        HandBeasts x = new HandBeasts();
        int before = 133;
        for (int z = 1; z <= 2; z++) {
            for (int dx = -3; dx <= 3; dx++) {
                for (int dy = -3; dy <= 3; dy++) {
                    Kit.same("lamp()", x.lamp(z, dx, dy), before);
                    before = 100 * z + 10 * (dx + 3) + (dy + 3);
                }
            }
        }
        Kit.same("the last of them", x.lamp(1, 0, 0), 266);
    }

    static void promise15LampOfTheLeast() {
        HandBeasts x = new HandBeasts();
        x.lamp(1, -3, -3);
        Kit.same("lamp()", x.lamp(1, 0, 0), 100);
    }
}

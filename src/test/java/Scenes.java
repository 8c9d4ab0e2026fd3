/** Objects to begin with. Each is made by some 150 calls at most, so that there is room for more. */
final class Scenes {
    /**
     * Two HANDS. HAND 0: 5, 5; its FINGER: 5, 4, then by JOINT 0 (-2 .. 2): 4, 4; 4, 3; 5, 3; 6, 3; 6, 4.
     * HAND 1: 11, 0; its FINGER: 11, 1, then by JOINT 1 (-1 .. 1): out of the map; 11, 2; 10, 2.
     */
    static final String TWO_HANDS = "h65f022h11f411";
    /** HAND 0: 5, 5, with a FINGER up and one down, of three JOINTS each: 15625 TURNS. */
    static final String MANY_TURNS = "h65f0222222f4222222";
    /** 4096 TURNS, and the fewest that are more: 4500. */
    static final String TURNS_4096 = "h65f0212121f4212121", TURNS_4500 = "h65f0222222f4211111";
    private static final int NONE = HandBeasts.NONE;

    private Scenes() {
    }

    static HandBeasts bare() {
        return new HandBeasts();
    }

    /**
     * Some of all. ROWS: 0 a SHADOW, 1 of no places, 2 of nine, 3 of ten with a 4096, 4 of two TURNS, 5 missing.
     * TEXTS: 0 TWO_HANDS, 1 with a FAULT, 2 of no bytes, 3 missing. POSES: 0 HELD, 1 MOVING, 2 HELPED, 3 STRAINED,
     * 4 BARRED; 0 to 2 are HELD by STRAIN now, too. BEASTS 0 (it does not move) and 3 (it moves). LOOKERS 0 and 1.
     * CALLS of POSES 0 (two) and 1.
     */
    static HandBeasts some() {
        HandBeasts x = new HandBeasts();
        Kit.text(x, 0, TWO_HANDS);
        Kit.text(x, 1, "h5f9");
        x.text(2, 0);
        x.hands(0);
        Kit.pose(x, NONE, 1, 0, 0);
        Kit.pose(x, 0, 4, 1, 0);
        Kit.pose(x, NONE, 1, -1, 1);
        x.strain(1);
        Kit.pose(x, NONE, 2, 2, 0);
        Kit.pose(x, NONE, 3, 0, -1);
        Kit.beast(x, 0, 0, 5, 5, 5, 4, 5, 3);
        Kit.beast(x, 3, 1, 5, 5, 5, 4, 6, 3, 11, 0);
        x.looker(1, 1, 1);
        x.looker(2, 0, 5);
        x.call(0, 0, 0);
        x.call(0, 1, 3);
        x.call(1, 0, 3);
        x.strain(3);
        x.lamp(1, 1, 0);
        Kit.shadow(x, 0, 0, 9, 11, 9, 6, 5);
        x.help(2, 0);
        x.row(1, 0);
        x.row(2, 9);
        Kit.row(x, 3, 0, 0, 0, 4096, 0, 0, 0, 0, 0, 0);
        x.row(4, 2);
        x.tear(5);
        x.odds(0, 3);
        for (int n = 0; n < 2; n++) x.tear(5);
        x.mean(1);
        for (int n = 0; n < 3; n++) x.at(1, 0);
        x.at(0, 9);
        return x;
    }

    /**
     * All that there can be: ROWS 0 (a SHADOW), 4 (two TURNS), the others of 40 places, TEXTS of 80 bytes, twelve
     * POSES of TWO_HANDS, all HELD, six BEASTS, eight LOOKERS, 24 CALLS.
     */
    static HandBeasts full() {
        HandBeasts x = new HandBeasts();
        Kit.text(x, 0, TWO_HANDS);
        x.hands(0);
        for (int t = 0; t < 4; t++) x.text(t, 80);
        for (int p = 0; p < 12; p++) Kit.pose(x, NONE, 1, p % 5 - 2, p / 6);
        Kit.shadow(x, 0, 5, 5, 5, 4);
        for (int k = 0; k < 6; k++) {
            x.lay(0, k, 1 << k);
            x.beast(k, 0, 0, k % 2);
        }
        for (int l = 0; l < 8; l++) x.looker(l, 9 - l, l % 3);
        for (int c = 0; c < 24; c++) x.call(c % 8, c % 12, c % 6);
        for (int r = 1; r < 6; r++) x.row(r, r == 4 ? 2 : 40);
        return x;
    }

    /**
     * MANY_TURNS and a HAND 1 at 3, 0. ROWS: 0 a SHADOW, 1 of nine, 2 of ten with a 4096, 4 of six TURNS, 5 missing.
     * POSES: 0 HELD, 1 BARRED. BEAST 0.
     */
    static HandBeasts spent() {
        HandBeasts x = Kit.withHands(MANY_TURNS + "h3", 6);
        Kit.pose(x, NONE, 1, 0, 0, 0, 0, 0, 0);
        Kit.pose(x, NONE, 3, 2, 2, 2, 0, 0, 0);
        Kit.beast(x, 0, 0, 5, 5);
        Kit.shadow(x, 0, 5, 5);
        x.row(1, 9);
        Kit.row(x, 2, 0, 0, 4096, 0, 0, 0, 0, 0, 0, 0);
        x.row(4, 6);
        x.tear(5);
        return x;
    }

    /** No TURNS are HELD: one FINGER, out of the map at 5, -1. ROW 0 a SHADOW, 1 of two places, 5 missing. BEAST 0. */
    static HandBeasts noneHeld() {
        HandBeasts x = Kit.withHands("h5f011", 1);
        Kit.pose(x, NONE, 3, 0);
        Kit.beast(x, 0, 0, 5, 5);
        x.looker(1, 2, 3);
        Kit.shadow(x, 0, 5, 0);
        Kit.row(x, 1, 7, 8);
        x.tear(5);
        return x;
    }
}

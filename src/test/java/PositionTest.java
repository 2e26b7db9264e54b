/** Terms: trays and positions, the moves of the loop, and where the inducts and chutes stand. */
public final class PositionTest {
    private static final Due due = new Due("PositionTest");
    private static final int[] SIZES = {1, 2, 3, 4, 5, 15, 16, 17, 199, 200};

    public static void main(String[] args) {
        theLastPositionIsFollowedByTheFirst();
        aFastStepGoesPastTheLastPositionToo();
        anItemGoesFromTheLastPositionToTheFirst();
        inductsStandAtQuartersCut();
        inductsStandAtThesePositions();
        chutesStandAtSixteenthsCut();
        chutesStandAtThesePositions();
        due.end();
    }

    /** Item 1 lies on this tray, and every other tray is free. */
    private static void liesOnlyOn(String made, LoopSorter x, int trays, int tray) {
        for (int k = 0; k < trays; k++) {
            due.answer(made + "tray(" + k + ")", x.tray(k), k == tray ? 1 : 0);
        }
    }

    /** "Tray k is at position k when nothing has moved; with each MOVE all go one position on (from T - 1 to 0)". */
    private static void theLastPositionIsFollowedByTheFirst() {
        for (int size : SIZES) {
            int[] allMoves = {1, 2, size - 1, size, size + 1, 2 * size - 1, 2 * size, 2 * size + 1};
            for (int moves : allMoves) {
                if (moves > 0) {
                    LoopSorter x = new LoopSorter(size, 1);
                    x.step(moves - 1);
                    x.induct(0, 1, 15);
                    x.step(1);
                    liesOnlyOn("of " + size + ", behind " + moves + " moves: ", x, size, Math.floorMod(-moves, size));
                }
            }
        }
    }

    private static void aFastStepGoesPastTheLastPositionToo() {
        for (int size = 1; size <= 12; size++) {
            for (int speed = 1; speed <= 5; speed++) {
                LoopSorter x = new LoopSorter(size, 1);
                x.speed(speed);
                x.step(2);
                x.induct(0, 1, 15);
                x.step(1);
                String made = "of " + size + ", at speed " + speed + ": ";
                liesOnlyOn(made, x, size, Math.floorMod(-3 * speed, size));
            }
        }
    }

    private static void anItemGoesFromTheLastPositionToTheFirst() {
        // of 17 trays chute 15 stands at 16, the last position, and chute 0 at the first
        LoopSorter x = new LoopSorter(17, 1);
        x.induct(3, 1, 0);
        x.step(1);
        due.answer("from 12 to 16, the last: step(4)", x.step(4), 0);
        due.answer("to 0: step(1)", x.step(1), 1);
        due.answer("out(0, 1)", x.out(0, 1), 0);
        LoopSorter y = new LoopSorter(17, 1);
        y.induct(3, 1, 15);
        y.step(1);
        due.answer("from 12 to 15: step(3)", y.step(3), 0);
        due.answer("to 16, the last: step(1)", y.step(1), 1);
    }

    /** How often the whole goes into the part, counted out instead of divided. */
    private static int cut(int part, int whole) {
        int times = 0;
        while ((times + 1) * whole <= part) {
            times++;
        }
        return times;
    }

    /** "INDUCTS 0 .. 3 stand at positions 0, T / 4, T / 2, 3 T / 4 .. (each cut)". */
    private static void inductsStandAtQuartersCut() {
        for (int size = 1; size <= 200; size++) {
            inductsStandAt(size, 0, cut(size, 4), cut(size, 2), cut(3 * size, 4));
        }
    }

    private static void inductsStandAtThesePositions() {
        inductsStandAt(1, 0, 0, 0, 0);
        inductsStandAt(2, 0, 0, 1, 1);
        inductsStandAt(3, 0, 0, 1, 2);
        inductsStandAt(4, 0, 1, 2, 3);
        inductsStandAt(5, 0, 1, 2, 3);
        inductsStandAt(6, 0, 1, 3, 4);
        inductsStandAt(7, 0, 1, 3, 5);
        inductsStandAt(8, 0, 2, 4, 6);
        inductsStandAt(199, 0, 49, 99, 149);
        inductsStandAt(200, 0, 50, 100, 150);
    }

    private static void inductsStandAt(int size, int... positions) {
        for (int i = 0; i < positions.length; i++) {
            LoopSorter x = new LoopSorter(size, 1);
            x.induct(i, 1, 0);
            x.step(1);
            // one move has brought each tray to the position one above its number
            liesOnlyOn("of " + size + ", induct " + i + ": ", x, size, Math.floorMod(positions[i] - 1, size));
        }
    }

    /** "CHUTES 0 .. 15 at (c T + T / 2) / 16 (each cut)". */
    private static void chutesStandAtSixteenthsCut() {
        for (int size = 1; size <= 200; size++) {
            for (int c = 0; c < 16; c++) {
                chuteStandsAt(size, c, cut(c * size + cut(size, 2), 16));
            }
        }
    }

    private static void chutesStandAtThesePositions() {
        chutesStandAt(1, 0, 0, 0, 0, 0, 0, 0, 0, 0, 0, 0, 0, 0, 0, 0, 0);
        chutesStandAt(2, 0, 0, 0, 0, 0, 0, 0, 0, 1, 1, 1, 1, 1, 1, 1, 1);
        chutesStandAt(3, 0, 0, 0, 0, 0, 1, 1, 1, 1, 1, 1, 2, 2, 2, 2, 2);
        chutesStandAt(15, 0, 1, 2, 3, 4, 5, 6, 7, 7, 8, 9, 10, 11, 12, 13, 14);
        chutesStandAt(16, 0, 1, 2, 3, 4, 5, 6, 7, 8, 9, 10, 11, 12, 13, 14, 15);
        chutesStandAt(17, 0, 1, 2, 3, 4, 5, 6, 7, 9, 10, 11, 12, 13, 14, 15, 16);
        chutesStandAt(31, 0, 2, 4, 6, 8, 10, 12, 14, 16, 18, 20, 22, 24, 26, 28, 30);
        chutesStandAt(32, 1, 3, 5, 7, 9, 11, 13, 15, 17, 19, 21, 23, 25, 27, 29, 31);
        chutesStandAt(200, 6, 18, 31, 43, 56, 68, 81, 93, 106, 118, 131, 143, 156, 168, 181, 193);
    }

    private static void chutesStandAt(int size, int... positions) {
        for (int c = 0; c < positions.length; c++) {
            chuteStandsAt(size, c, positions[c]);
        }
    }

    private static void chuteStandsAt(int size, int chute, int position) {
        LoopSorter x = new LoopSorter(size, 1);
        String made = "of " + size + ", chute " + chute + ": ";
        x.induct(0, 1, chute);
        x.step(1);
        // it lies at position 0 and comes back there when the loop has gone round
        int moves = position == 0 ? size : position;
        due.answer(made + "not before it is there", x.step(moves - 1), 0);
        due.answer(made + "there", x.step(1), 1);
        due.answer(made + "out(0, 1)", x.out(0, 1), chute);
    }
}

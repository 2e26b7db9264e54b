/** Promise 1: a new object, its bounds, and where the inducts and chutes stand. */
public final class NewObjectTest {
    private static final Due due = new Due("NewObjectTest");

    public static void main(String[] args) {
        traysAreBroughtWithinBounds();
        roundsAreBroughtWithinBounds();
        nothingHasHappenedYet();
        inductsStandAtTheirPositions();
        chutesStandAtTheirPositions();
        due.end();
    }

    private static void traysAreBroughtWithinBounds() {
        int[][] askedAndHad = {
            {Integer.MIN_VALUE, 1}, {-5, 1}, {-1, 1}, {0, 1}, {1, 1}, {2, 2}, {3, 3}, {16, 16},
            {199, 199}, {200, 200}, {201, 200}, {1000, 200}, {Integer.MAX_VALUE, 200}};
        for (int[] pair : askedAndHad) {
            LoopSorter x = new LoopSorter(pair[0], 1);
            String made = "of " + pair[0] + " trays: ";
            for (int k = 0; k < pair[1]; k++) {
                due.answer(made + "tray(" + k + ")", x.tray(k), 0);
            }
            due.noSuchTray(made + "tray(" + pair[1] + ")", () -> x.tray(pair[1]));
        }
    }

    private static void roundsAreBroughtWithinBounds() {
        int[][] askedAndHad = {
            {Integer.MIN_VALUE, 1}, {-1, 1}, {0, 1}, {1, 1}, {2, 2}, {19, 19}, {20, 20}, {21, 20},
            {99, 20}, {Integer.MAX_VALUE, 20}};
        for (int[] pair : askedAndHad) {
            LoopSorter x = new LoopSorter(16, pair[0]);
            String made = "with " + pair[0] + " rounds: ";
            x.full(3, true);
            x.induct(0, 1, 3);
            due.answer(made + "step(1000)", x.step(1000), 1);
            due.answer(made + "out(0, 1)", x.out(0, 1), 15);
            due.answer(made + "out(0, 3)", x.out(0, 3), pair[1]);
            due.answer(made + "out(0, 2)", x.out(0, 2), 16 * (pair[1] - 1) + 15);
        }
    }

    private static void nothingHasHappenedYet() {
        LoopSorter x = new LoopSorter(20, 3);
        for (int i = 0; i < 4; i++) {
            due.answer("share(" + i + ")", x.share(i), 0);
        }
        for (int c = 0; c < 16; c++) {
            due.answer("full(" + c + ", false)", x.full(c, false), 0);
        }
        due.answer("round(1)", x.round(1), LoopSorter.UNKNOWN);
        due.answer("missed(1)", x.missed(1), LoopSorter.UNKNOWN);
        due.answer("out(0, 0)", x.out(0, 0), LoopSorter.UNKNOWN);
        due.answer("speed(1)", x.speed(1), 1);
        due.answer("induct(0, 1, 0)", x.induct(0, 1, 0), 1);
    }

    private static void inductsStandAtTheirPositions() {
        inductsStandAt(1, 0, 0, 0, 0);
        inductsStandAt(2, 0, 0, 1, 1);
        inductsStandAt(3, 0, 0, 1, 2);
        inductsStandAt(5, 0, 1, 2, 3);
        inductsStandAt(6, 0, 1, 3, 4);
        inductsStandAt(7, 0, 1, 3, 5);
        inductsStandAt(16, 0, 4, 8, 12);
        inductsStandAt(199, 0, 49, 99, 149);
        inductsStandAt(200, 0, 50, 100, 150);
    }

    private static void inductsStandAt(int trays, int... positions) {
        for (int i = 0; i < positions.length; i++) {
            LoopSorter x = new LoopSorter(trays, 1);
            x.induct(i, 1, 0);
            x.step(1);
            int tray = (positions[i] + trays - 1) % trays;
            due.answer("of " + trays + " trays, induct " + i + ": tray(" + tray + ")", x.tray(tray), 1);
        }
    }

    private static void chutesStandAtTheirPositions() {
        chutesStandAt(1, 0, 0, 0, 0, 0, 0, 0, 0, 0, 0, 0, 0, 0, 0, 0, 0);
        chutesStandAt(3, 0, 0, 0, 0, 0, 1, 1, 1, 1, 1, 1, 2, 2, 2, 2, 2);
        chutesStandAt(16, 0, 1, 2, 3, 4, 5, 6, 7, 8, 9, 10, 11, 12, 13, 14, 15);
        chutesStandAt(17, 0, 1, 2, 3, 4, 5, 6, 7, 9, 10, 11, 12, 13, 14, 15, 16);
        chutesStandAt(200, 6, 18, 31, 43, 56, 68, 81, 93, 106, 118, 131, 143, 156, 168, 181, 193);
    }

    private static void chutesStandAt(int trays, int... positions) {
        for (int c = 0; c < positions.length; c++) {
            LoopSorter x = new LoopSorter(trays, 1);
            x.induct(0, 1, c);
            x.step(300);
            int moves = positions[c] == 0 ? trays : positions[c];
            due.answer("of " + trays + " trays, chute " + c + ": out(0, 2)", x.out(0, 2), moves);
            due.answer("of " + trays + " trays, chute " + c + ": out(0, 1)", x.out(0, 1), c);
        }
    }
}

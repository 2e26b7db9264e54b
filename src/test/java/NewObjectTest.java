/** Promise 1: a new object. */
public final class NewObjectTest {
    private static final Due due = new Due("NewObjectTest");

    public static void main(String[] args) {
        traysAreBroughtWithinBounds();
        roundsAreBroughtWithinBounds();
        bothAreBroughtWithinBounds();
        nothingHasHappenedYet();
        objectsShareNothing();
        due.end();
    }

    /** "so many trays (brought to 1 .. 200)": 0, 1, 2 and 199, 200, 201. */
    private static void traysAreBroughtWithinBounds() {
        int[][] askedAndHad = {
            {Integer.MIN_VALUE, 1}, {-5, 1}, {-1, 1}, {0, 1}, {1, 1}, {2, 2}, {3, 3}, {16, 16},
            {199, 199}, {200, 200}, {201, 200}, {1000, 200}, {Integer.MAX_VALUE, 200}};
        for (int[] pair : askedAndHad) {
            LoopSorter x = new LoopSorter(pair[0], 1);
            String made = "of " + pair[0] + " trays: ";
            for (int k = 0; k < pair[1]; k++) {
                due.answer(made + "tray(" + k + ")", x.tray(k), 0);
            }
            due.noSuchTray(made + "tray(" + pair[1] + ")", () -> x.tray(pair[1]));
            due.noSuchTray(made + "tray(-1)", () -> x.tray(-1));
        }
    }

    /** "may pass its chute so often (brought to 1 .. 20)": 0, 1, 2 and 19, 20, 21. */
    private static void roundsAreBroughtWithinBounds() {
        int[][] askedAndHad = {
            {Integer.MIN_VALUE, 1}, {-1, 1}, {0, 1}, {1, 1}, {2, 2}, {19, 19}, {20, 20}, {21, 20},
            {99, 20}, {Integer.MAX_VALUE, 20}};
        for (int[] pair : askedAndHad) {
            LoopSorter x = new LoopSorter(16, pair[0]);
            String made = "with " + pair[0] + " rounds: ";
            x.full(3, true);
            x.induct(0, 1, 3);
            due.answer(made + "step(1000)", x.step(1000), 1);
            due.answer(made + "out(0, 1)", x.out(0, 1), 15);
            due.answer(made + "out(0, 3)", x.out(0, 3), pair[1]);
            due.answer(made + "out(0, 2)", x.out(0, 2), 16 * (pair[1] - 1) + 15);
        }
    }

    private static void bothAreBroughtWithinBounds() {
        LoopSorter least = new LoopSorter(0, 0);
        least.full(0, true);
        least.induct(0, 1, 0);
        due.answer("the least loop: step(1)", least.step(1), 0);
        due.answer("tray(0)", least.tray(0), 1);
        due.answer("overstayed at once: step(1)", least.step(1), 1);
        due.noSuchTray("tray(1)", () -> least.tray(1));
        LoopSorter greatest = new LoopSorter(201, 21);
        greatest.full(0, true);
        greatest.induct(0, 1, 0);
        greatest.step(1);
        due.answer("the greatest loop: tray(199)", greatest.tray(199), 1);
        due.noSuchTray("tray(200)", () -> greatest.tray(200));
        // chute 0 stands at 6, chute 15 at 193
        for (int i = 0; i < 3; i++) {
            due.answer("step(1000)", greatest.step(1000), 0);
        }
        due.answer("step(992)", greatest.step(992), 0);
        due.answer("twenty rounds: round(1)", greatest.round(1), 20);
        due.answer("step(1)", greatest.step(1), 1);
    }

    private static void nothingHasHappenedYet() {
        LoopSorter x = new LoopSorter(20, 3);
        for (int i = 0; i < 4; i++) {
            due.answer("share(" + i + ")", x.share(i), 0);
        }
        for (int c = 0; c < 16; c++) {
            due.answer("full(" + c + ", false)", x.full(c, false), 0);
        }
        due.answer("round(1)", x.round(1), LoopSorter.UNKNOWN);
        due.answer("missed(1)", x.missed(1), LoopSorter.UNKNOWN);
        due.answer("out(0, 0)", x.out(0, 0), LoopSorter.UNKNOWN);
        due.answer("speed(1)", x.speed(1), 1);
        due.answer("induct(0, 1, 0)", x.induct(0, 1, 0), 1);
    }

    private static void objectsShareNothing() {
        LoopSorter busy = new LoopSorter(16, 1);
        LoopSorter other = new LoopSorter(17, 2);
        busy.induct(0, 1, 3);
        busy.full(4, true);
        busy.speed(5);
        busy.step(7);
        due.answer("induct(0, 1, 4)", other.induct(0, 1, 4), 1);
        due.answer("speed(1)", other.speed(1), 1);
        due.answer("share(0)", other.share(0), 0);
        due.answer("step(1)", other.step(1), 0);
        due.answer("tray(16)", other.tray(16), 1);
        due.answer("out(0, 0)", other.out(0, 0), LoopSorter.UNKNOWN);
        due.answer("chute 4 stands at 4, and is open: step(4)", other.step(4), 1);
        due.answer("out(0, 2)", other.out(0, 2), 4);
        due.answer("the busy one: out(0, 2)", busy.out(0, 2), 1);
    }
}

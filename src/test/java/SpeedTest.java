/** Promise 9: speed. */
public final class SpeedTest {
    private static final Due due = new Due("SpeedTest");

    public static void main(String[] args) {
        tellsTheSpeedBefore();
        wrongInputsAreRefused();
        movesAsOftenInAStep();
        due.end();
    }

    private static void tellsTheSpeedBefore() {
        LoopSorter x = new LoopSorter(16, 1);
        int before = 1;
        int[] speeds = {1, 5, 5, 2, 3, 4, 1};
        for (int s : speeds) {
            due.answer("speed(" + s + ")", x.speed(s), before);
            before = s;
        }
    }

    private static void wrongInputsAreRefused() {
        LoopSorter x = new LoopSorter(16, 1);
        x.speed(3);
        int[] wrong = {Integer.MIN_VALUE, -1, 0, 6, 7, Integer.MAX_VALUE};
        for (int s : wrong) {
            due.answer("speed(" + s + ")", x.speed(s), LoopSorter.OUTSIDE);
        }
        due.answer("speed(1)", x.speed(1), 3);
    }

    private static void movesAsOftenInAStep() {
        for (int s = 1; s <= 5; s++) {
            LoopSorter x = new LoopSorter(16, 1);
            x.speed(s);
            x.induct(0, 1, 10);
            x.induct(0, 1, 10);
            x.step(2);
            due.answer("speed " + s + ": tray(" + (16 - s) + ")", x.tray(16 - s), 1);
            due.answer("speed " + s + ": tray(" + (16 - 2 * s) + ")", x.tray(16 - 2 * s), 2);
            due.answer("speed " + s + ": step(20)", x.step(20), 2);
            due.answer("speed " + s + ": out(0, 2)", x.out(0, 2), (10 + s - 1) / s);
        }
    }
}

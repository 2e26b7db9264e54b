/** Promise 9: speed. */
public final class SpeedTest {
    private static final Due due = new Due("SpeedTest");

    public static void main(String[] args) {
        isOneAtFirst();
        tellsTheSpeedBefore();
        wrongSpeedsAreRefused();
        movesAsOftenInAStep();
        countsFromTheNextStepOn();
        due.end();
    }

    /** Terms: "as many moves as the SPEED is (1 at first)". */
    private static void isOneAtFirst() {
        for (int s = 1; s <= 5; s++) {
            due.answer("the first call: speed(" + s + ")", new LoopSorter(16, 1).speed(s), 1);
        }
        LoopSorter x = new LoopSorter(16, 1);
        x.induct(0, 1, 2);
        due.answer("step(2)", x.step(2), 0);
        due.answer("tray(15)", x.tray(15), 1);
        due.answer("step(1)", x.step(1), 1);
    }

    /** "The SPEED is another one: that before": each behind each. */
    private static void tellsTheSpeedBefore() {
        LoopSorter x = new LoopSorter(16, 1);
        int before = 1;
        for (int a = 1; a <= 5; a++) {
            for (int b = 1; b <= 5; b++) {
                due.answer("speed(" + a + ")", x.speed(a), before);
                due.answer("speed(" + b + ")", x.speed(b), a);
                before = b;
            }
        }
    }

    /** "OUTSIDE when it is not 1 .. 5": 0, 1 and 5, 6. */
    private static void wrongSpeedsAreRefused() {
        for (int s = 1; s <= 5; s++) {
            LoopSorter x = new LoopSorter(16, 1);
            due.answer("speed(" + s + ")", x.speed(s), 1);
            int[] wrong = {Integer.MIN_VALUE, -5, -1, 0, 6, 7, Integer.MAX_VALUE};
            for (int other : wrong) {
                due.answer("speed(" + other + ")", x.speed(other), LoopSorter.OUTSIDE);
            }
            x.induct(0, 1, 15);
            x.step(1);
            due.answer("it stays: tray(" + (16 - s) + ")", x.tray(16 - s), 1);
            due.answer("it stays: speed(1)", x.speed(1), s);
        }
    }

    private static void movesAsOftenInAStep() {
        for (int s = 1; s <= 5; s++) {
            LoopSorter x = new LoopSorter(16, 1);
            x.speed(s);
            x.induct(0, 1, 10);
            x.induct(0, 1, 10);
            x.step(2);
            due.answer("speed " + s + ": tray(" + (16 - s) + ")", x.tray(16 - s), 1);
            due.answer("speed " + s + ": tray(" + (16 - 2 * s) + ")", x.tray(16 - 2 * s), 2);
            due.answer("speed " + s + ": step(20)", x.step(20), 2);
            due.answer("speed " + s + ": out(0, 2)", x.out(0, 2), (10 + s - 1) / s);
        }
    }

    private static void countsFromTheNextStepOn() {
        LoopSorter x = new LoopSorter(16, 1);
        x.induct(0, 1, 9);
        x.step(1);
        x.speed(4);
        due.answer("nothing moves by that: step(0)", x.step(0), 0);
        due.answer("to 4: step(1)", x.step(1), 0);
        x.speed(5);
        due.answer("to 9: step(1)", x.step(1), 1);
        due.answer("out(0, 2)", x.out(0, 2), 2);
    }
}

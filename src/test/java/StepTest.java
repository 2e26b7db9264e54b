/** Promise 3: step. What a single STEP does is in PositionTest, PassTest, PutOnTest and TurnTest. */
public final class StepTest {
    private static final Due due = new Due("StepTest");

    public static void main(String[] args) {
        wrongNumbersAreRefused();
        noStepChangesNothing();
        runsAsManyStepsAsAsked();
        tellsHowManyWentOutInThem();
        timeIsOneMoreForEachStep();
        due.end();
    }

    /** "OUTSIDE when n is not 0 .. 1000": -1, 0 and 1000, 1001. */
    private static void wrongNumbersAreRefused() {
        LoopSorter x = new LoopSorter(16, 1);
        x.induct(0, 1, 2);
        int[] wrong = {Integer.MIN_VALUE, -1000, -2, -1, 1001, 1002, Integer.MAX_VALUE};
        for (int n : wrong) {
            due.answer("step(" + n + ")", x.step(n), LoopSorter.OUTSIDE);
        }
        due.answer("nothing moved: share(0)", x.share(0), 0);
        due.answer("step(0)", x.step(0), 0);
        due.answer("step(1000)", x.step(1000), 1);
        due.answer("step(999)", x.step(999), 0);
        due.answer("out(0, 2)", x.out(0, 2), 2);
    }

    /** "(perhaps none)". */
    private static void noStepChangesNothing() {
        LoopSorter x = new LoopSorter(16, 1);
        x.induct(0, 1, 2);
        due.answer("step(0)", x.step(0), 0);
        due.answer("no turn was taken: share(0)", x.share(0), 0);
        x.step(2);
        due.answer("right before its chute: step(0)", x.step(0), 0);
        due.answer("nothing moved: tray(15)", x.tray(15), 1);
        due.answer("step(1)", x.step(1), 1);
        due.answer("no time went by: out(0, 2)", x.out(0, 2), 2);
        due.answer("step(0)", x.step(0), 0);
    }

    /** "So many STEPS": the loop of 200 tells by its tray at induct 0 how many there were. */
    private static void runsAsManyStepsAsAsked() {
        int[] numbers = {0, 1, 2, 199, 200, 999, 1000};
        for (int n : numbers) {
            LoopSorter x = new LoopSorter(200, 1);
            due.answer("step(" + n + ")", x.step(n), 0);
            x.induct(0, 1, 15);
            x.step(1);
            int tray = Math.floorMod(-n - 1, 200);
            due.answer("behind step(" + n + "): tray(" + tray + ")", x.tray(tray), 1);
        }
    }

    /** "how many items went out in them": none, some, all, and not those of steps before. */
    private static void tellsHowManyWentOutInThem() {
        LoopSorter x = new LoopSorter(16, 1);
        for (int c = 1; c <= 8; c++) {
            x.induct(0, 1, 8);
        }
        // put on in steps 1 .. 8, out in steps 9 .. 16
        due.answer("step(8)", x.step(8), 0);
        due.answer("step(1)", x.step(1), 1);
        due.answer("step(2)", x.step(2), 2);
        due.answer("step(4)", x.step(4), 4);
        due.answer("step(2)", x.step(2), 1);
        due.answer("step(1000)", x.step(1000), 0);
        LoopSorter y = new LoopSorter(16, 1);
        for (int i = 0; i < 8; i++) {
            y.induct(0, 1, 8);
        }
        due.answer("step(1000)", y.step(1000), 8);
    }

    /** "(TIME is one more for each, whatever the SPEED)". */
    private static void timeIsOneMoreForEachStep() {
        int[] before = {0, 1, 999, 1000};
        for (int n : before) {
            for (int speed = 1; speed <= 5; speed++) {
                LoopSorter x = new LoopSorter(1, 1);
                x.speed(speed);
                x.step(n);
                x.induct(0, 1, 0);
                due.answer("step(2)", x.step(2), 1);
                due.answer("behind step(" + n + ") at speed " + speed + ": out(0, 2)", x.out(0, 2), n + 1);
            }
        }
    }
}

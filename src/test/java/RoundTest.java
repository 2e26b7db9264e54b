/** Promise 11: round. */
public final class RoundTest {
    private static final Due due = new Due("RoundTest");

    public static void main(String[] args) {
        countsTheChutePassed();
        staysAsItWasWhenItWentOut();
        countsOnWhenItHasOverstayed();
        wrongInputsAreRefused();
        due.end();
    }

    private static void countsTheChutePassed() {
        LoopSorter x = new LoopSorter(16, 3);
        x.full(7, true);
        x.induct(0, 1, 7);
        due.answer("it waits: round(1)", x.round(1), 0);
        x.step(7);
        due.answer("not there yet: round(1)", x.round(1), 0);
        x.step(1);
        due.answer("round(1)", x.round(1), 1);
        x.step(15);
        due.answer("round(1)", x.round(1), 1);
        x.step(1);
        due.answer("round(1)", x.round(1), 2);
        due.answer("step(15)", x.step(15), 0);
        x.step(1);
        due.answer("round(1)", x.round(1), 3);
        due.answer("step(7)", x.step(7), 0);
        due.answer("step(1)", x.step(1), 1);
    }

    private static void staysAsItWasWhenItWentOut() {
        LoopSorter x = new LoopSorter(16, 2);
        x.full(7, true);
        x.induct(0, 1, 7);
        x.induct(0, 1, 8);
        x.step(200);
        due.answer("round(1)", x.round(1), 2);
        due.answer("round(2)", x.round(2), 0);
        x.full(7, false);
        x.full(15, false);
        x.step(200);
        due.answer("round(1)", x.round(1), 2);
    }

    private static void countsOnWhenItHasOverstayed() {
        LoopSorter x = new LoopSorter(16, 1);
        x.full(7, true);
        x.induct(0, 1, 7);
        x.step(8);
        due.answer("round(1)", x.round(1), 1);
        // missed at the overflow, it comes past its own chute once more
        x.missed(1);
        x.step(10);
        x.found(1, 15);
        due.answer("step(6)", x.step(6), 0);
        due.answer("round(1)", x.round(1), 2);
        due.answer("step(8)", x.step(8), 1);
        due.answer("out(0, 1)", x.out(0, 1), 15);
        due.answer("out(0, 3)", x.out(0, 3), 2);
    }

    private static void wrongInputsAreRefused() {
        LoopSorter x = new LoopSorter(16, 2);
        due.answer("round(1) when there is none", x.round(1), LoopSorter.UNKNOWN);
        x.induct(0, 1, 7);
        int[] noItems = {Integer.MIN_VALUE, -1, 0, 2, 400, 401, Integer.MAX_VALUE};
        for (int item : noItems) {
            due.answer("round(" + item + ")", x.round(item), LoopSorter.UNKNOWN);
        }
    }
}

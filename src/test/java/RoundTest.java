/** Promise 11: round. */
public final class RoundTest {
    private static final Due due = new Due("RoundTest");

    public static void main(String[] args) {
        countsTheChutePassed();
        isNoneWhileItWaits();
        staysAsItWasWhenItWentOut();
        countsOnWhenItHasOverstayed();
        noSuchItems();
        due.end();
    }

    /** One move before its chute, at it and one behind it, in each round. */
    private static void countsTheChutePassed() {
        LoopSorter x = new LoopSorter(16, 3);
        x.full(7, true);
        x.induct(0, 1, 7);
        x.step(7);
        due.answer("not there yet: round(1)", x.round(1), 0);
        x.step(1);
        due.answer("passed: round(1)", x.round(1), 1);
        x.step(1);
        due.answer("behind it: round(1)", x.round(1), 1);
        x.step(14);
        due.answer("not there yet: round(1)", x.round(1), 1);
        x.step(1);
        due.answer("passed: round(1)", x.round(1), 2);
        due.answer("step(15)", x.step(15), 0);
        x.step(1);
        due.answer("passed: round(1)", x.round(1), 3);
        due.answer("step(7)", x.step(7), 0);
        due.answer("overstayed: step(1)", x.step(1), 1);
    }

    /** "0 while it waits": though its chute is shut and the loop goes round. */
    private static void isNoneWhileItWaits() {
        LoopSorter x = new LoopSorter(1, 1);
        x.full(7, true);
        x.induct(0, 2, 7);
        x.induct(0, 1, 7);
        for (int i = 0; i < 3; i++) {
            due.answer("round(1)", x.round(1), 0);
            due.answer("round(2)", x.round(2), 0);
            x.step(500);
        }
        LoopSorter y = new LoopSorter(16, 5);
        y.full(0, true);
        y.induct(0, 1, 0);
        due.answer("it waits: round(1)", y.round(1), 0);
        y.step(1);
        due.answer("it is put on: round(1)", y.round(1), 0);
        y.step(16);
        due.answer("it has passed: round(1)", y.round(1), 1);
    }

    /** "as they were when it went out": none, some and as many as there may be. */
    private static void staysAsItWasWhenItWentOut() {
        LoopSorter x = new LoopSorter(16, 2);
        x.full(7, true);
        x.full(9, true);
        x.induct(0, 1, 7);
        x.induct(0, 1, 8);
        x.induct(0, 1, 9);
        x.step(20);
        due.answer("round(3)", x.round(3), 1);
        x.full(9, false);
        x.step(200);
        for (int i = 0; i < 3; i++) {
            due.answer("overstayed: round(1)", x.round(1), 2);
            due.answer("at once: round(2)", x.round(2), 0);
            due.answer("in the second round: round(3)", x.round(3), 1);
            x.full(7, i == 0);
            x.full(15, false);
            x.step(200);
        }
    }

    /** Terms: "its ROUNDS are one more": no sentence names a last count of them. */
    private static void countsOnWhenItHasOverstayed() {
        int[] allowed = {1, 2, 19, 20};
        for (int rounds : allowed) {
            LoopSorter x = new LoopSorter(16, rounds);
            String made = rounds + " rounds: ";
            x.full(7, true);
            x.induct(0, 1, 7);
            x.step(8);
            for (int passed = 1; passed <= rounds + 10; passed++) {
                due.answer(made + "round(1)", x.round(1), passed);
                // missed at the overflow, it comes past its own chute once more
                x.missed(1);
                x.step(10);
                x.found(1, 15);
                due.answer(made + "step(6)", x.step(6), 0);
            }
            due.answer(made + "step(7)", x.step(7), 0);
            due.answer(made + "at the overflow: step(1)", x.step(1), 1);
            due.answer(made + "out(0, 1)", x.out(0, 1), 15);
            due.answer(made + "out(0, 3)", x.out(0, 3), rounds + 11);
            due.answer(made + "round(1)", x.round(1), rounds + 11);
        }
    }

    /** UNKNOWN: 0, 1 and the last item, the number behind it. */
    private static void noSuchItems() {
        LoopSorter x = new LoopSorter(16, 2);
        due.answer("round(1) when there is none", x.round(1), LoopSorter.UNKNOWN);
        for (int count = 1; count <= 8; count++) {
            x.induct(0, 1, 7);
            int[] noItems = {Integer.MIN_VALUE, -2, -1, 0, count + 1, count + 2, 400, 401, Integer.MAX_VALUE};
            for (int item : noItems) {
                due.answer("of " + count + ": round(" + item + ")", x.round(item), LoopSorter.UNKNOWN);
            }
            due.answer("of " + count + ": round(1)", x.round(1), 0);
            due.answer("of " + count + ": round(" + count + ")", x.round(count), 0);
        }
    }
}

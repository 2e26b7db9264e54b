/** Promise 7: missed. */
public final class MissedTest {
    private static final Due due = new Due("MissedTest");

    public static void main(String[] args) {
        aMissedItemGoesOutNowhere();
        aMissedItemPassesNothing();
        itsTraysAreNotFree();
        wrongInputsAreRefused();
        due.end();
    }

    private static void aMissedItemGoesOutNowhere() {
        LoopSorter x = new LoopSorter(16, 1);
        x.induct(0, 1, 3);
        x.step(1);
        due.answer("missed(1)", x.missed(1), 15);
        due.answer("step(1000)", x.step(1000), 0);
        due.answer("tray(15)", x.tray(15), 1);
        x.full(3, true);
        x.induct(1, 2, 3);
        x.step(18);
        due.answer("overstayed: round(2)", x.round(2), 1);
        due.answer("a long one's own tray", x.missed(2), 10);
        due.answer("not into the overflow either", x.step(100), 0);
    }

    private static void aMissedItemPassesNothing() {
        LoopSorter x = new LoopSorter(16, 5);
        x.full(3, true);
        x.induct(0, 1, 3);
        x.step(4);
        due.answer("round(1)", x.round(1), 1);
        due.answer("missed(1)", x.missed(1), 15);
        x.step(160);
        due.answer("round(1)", x.round(1), 1);
    }

    private static void itsTraysAreNotFree() {
        LoopSorter x = new LoopSorter(2, 1);
        x.induct(0, 2, 3);
        x.step(1);
        due.answer("missed(1)", x.missed(1), 1);
        x.induct(0, 1, 3);
        x.induct(2, 1, 3);
        due.answer("step(50)", x.step(50), 0);
        due.answer("share(0)", x.share(0), 1);
        due.answer("share(2)", x.share(2), 0);
    }

    private static void wrongInputsAreRefused() {
        LoopSorter x = new LoopSorter(16, 1);
        due.answer("missed(1) when there is none", x.missed(1), LoopSorter.UNKNOWN);
        x.induct(0, 1, 3);
        x.induct(0, 1, 9);
        int[] noItems = {Integer.MIN_VALUE, -1, 0, 3, 400, 401, Integer.MAX_VALUE};
        for (int item : noItems) {
            due.answer("missed(" + item + ")", x.missed(item), LoopSorter.UNKNOWN);
        }
        due.answer("it waits: missed(1)", x.missed(1), LoopSorter.STATE);
        x.step(4);
        due.answer("it went out: missed(1)", x.missed(1), LoopSorter.STATE);
        due.answer("missed(2)", x.missed(2), 14);
        due.answer("missed already: missed(2)", x.missed(2), LoopSorter.STATE);
        due.answer("found(2, 14)", x.found(2, 14), 1);
        due.answer("missed(2)", x.missed(2), 14);
    }
}

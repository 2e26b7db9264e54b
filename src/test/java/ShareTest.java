/** Promise 10: share. */
public final class ShareTest {
    private static final Due due = new Due("ShareTest");

    public static void main(String[] args) {
        countsItemsPutOn();
        eachInductHasItsOwn();
        countsThemWhateverBecameOfThem();
        doesNotCountWhatCouldNotBePutOn();
        noSuchInducts();
        due.end();
    }

    /** Terms: "SHARES are how many items an induct has put on". */
    private static void countsItemsPutOn() {
        LoopSorter x = new LoopSorter(40, 1);
        x.induct(2, 1, 0);
        x.induct(2, 2, 0);
        x.induct(3, 2, 0);
        due.answer("those that wait do not count: share(2)", x.share(2), 0);
        x.step(1);
        due.answer("share(2)", x.share(2), 1);
        due.answer("a long one counts once: share(3)", x.share(3), 1);
        x.step(1);
        due.answer("taken, the tray behind is free: share(2)", x.share(2), 2);
        due.answer("share(0)", x.share(0), 0);
        due.answer("share(1)", x.share(1), 0);
    }

    private static void eachInductHasItsOwn() {
        for (int i = 0; i < 4; i++) {
            LoopSorter x = new LoopSorter(200, 1);
            for (int n = 1; n <= 3; n++) {
                x.induct(i, 1, 15);
                x.step(1);
                for (int j = 0; j < 4; j++) {
                    due.answer(n + " at " + i + ": share(" + j + ")", x.share(j), j == i ? n : 0);
                }
            }
        }
    }

    /** "(whatever became of the items)": out, out by the overflow, missed, found, emptied. */
    private static void countsThemWhateverBecameOfThem() {
        LoopSorter x = new LoopSorter(16, 1);
        x.full(5, true);
        x.induct(0, 1, 1);
        x.induct(0, 1, 5);
        x.induct(0, 1, 9);
        x.step(4);
        due.answer("one went out: share(0)", x.share(0), 3);
        x.missed(3);
        due.answer("one is missed: share(0)", x.share(0), 3);
        x.step(200);
        due.answer("one overstayed: share(0)", x.share(0), 3);
        x.full(1, false);
        x.full(15, false);
        due.answer("the chutes are empty: share(0)", x.share(0), 3);
        x.found(3, 13);
        due.answer("one was found: share(0)", x.share(0), 3);
        due.answer("step(16)", x.step(16), 1);
        due.answer("all went out: share(0)", x.share(0), 3);
    }

    private static void doesNotCountWhatCouldNotBePutOn() {
        LoopSorter x = new LoopSorter(1, 1);
        x.induct(2, 2, 1);
        x.step(1000);
        due.answer("a long one on one tray: share(2)", x.share(2), 0);
        x.induct(0, 3, 1);
        x.step(1);
        due.answer("one that was refused: share(0)", x.share(0), 0);
    }

    /** UNKNOWN: -1, 0 and 3, 4. */
    private static void noSuchInducts() {
        LoopSorter x = new LoopSorter(16, 1);
        int[] noInducts = {Integer.MIN_VALUE, -2, -1, 4, 5, Integer.MAX_VALUE};
        for (int induct : noInducts) {
            due.answer("share(" + induct + ")", x.share(induct), LoopSorter.UNKNOWN);
        }
        due.answer("share(0)", x.share(0), 0);
        due.answer("share(3)", x.share(3), 0);
    }
}

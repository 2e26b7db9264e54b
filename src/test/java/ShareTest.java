/** Promise 10: share. */
public final class ShareTest {
    private static final Due due = new Due("ShareTest");

    public static void main(String[] args) {
        countsItemsPutOn();
        countsThemWhateverBecameOfThem();
        wrongInputsAreRefused();
        due.end();
    }

    private static void countsItemsPutOn() {
        LoopSorter x = new LoopSorter(40, 1);
        x.induct(2, 1, 0);
        x.induct(2, 2, 0);
        x.induct(3, 2, 0);
        due.answer("those that wait do not count: share(2)", x.share(2), 0);
        x.step(1);
        due.answer("share(2)", x.share(2), 1);
        due.answer("a long one counts once: share(3)", x.share(3), 1);
        x.step(1);
        due.answer("the tray behind is free: share(2)", x.share(2), 2);
        due.answer("share(0)", x.share(0), 0);
        due.answer("share(1)", x.share(1), 0);
    }

    private static void countsThemWhateverBecameOfThem() {
        LoopSorter x = new LoopSorter(16, 1);
        x.full(5, true);
        x.induct(0, 1, 1);
        x.induct(0, 1, 5);
        x.induct(0, 1, 9);
        x.step(4);
        x.missed(3);
        x.step(200);
        x.full(1, false);
        x.full(15, false);
        due.answer("share(0)", x.share(0), 3);
    }

    private static void wrongInputsAreRefused() {
        LoopSorter x = new LoopSorter(16, 1);
        int[] noInducts = {Integer.MIN_VALUE, -1, 4, 5, Integer.MAX_VALUE};
        for (int induct : noInducts) {
            due.answer("share(" + induct + ")", x.share(induct), LoopSorter.UNKNOWN);
        }
    }
}

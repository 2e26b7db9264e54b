/** Terms: on which trays items are put, and when these are free. */
public final class PutOnTest {
    private static final Due due = new Due("PutOnTest");

    public static void main(String[] args) {
        aShortItemNeedsOneFreeTray();
        aLongItemNeedsTwoFreeTrays();
        missedItemsKeepTheirTrays();
        aLongItemLiesOnTheTrayBehindToo();
        theFirstTrayIsItsOwn();
        aLongItemNeverFitsOnOneTray();
        aLongItemFillsALoopOfTwo();
        aLongItemLeavesOneTrayOfThree();
        traysThatBecameFreeAreUsedInTheSameStep();
        due.end();
    }

    /** Step by step past induct 1: whether it can put an item on while item 1, put on at induct 0, comes by. */
    private static void comesBy(String what, int lengthComing, boolean missed, int lengthWaiting, int... shares) {
        int firstStep = 3;
        for (int i = 0; i < shares.length; i++) {
            LoopSorter x = new LoopSorter(16, 1);
            x.induct(0, lengthComing, 15);
            x.step(1);
            if (missed) {
                x.missed(1);
            }
            x.step(firstStep + i - 2);
            x.induct(1, lengthWaiting, 15);
            x.step(1);
            // behind step s item 1's own tray is at position s - 1, and induct 1 stands at 4
            due.answer(what + ", item 1 at " + (firstStep + i - 1) + ": share(1)", x.share(1), shares[i]);
        }
    }

    /** "An item of length 1 is put on the tray at its induct's position, if that is free". */
    private static void aShortItemNeedsOneFreeTray() {
        comesBy("short, a short one comes by", 1, false, 1, 1, 1, 0, 1, 1);
        comesBy("short, a long one comes by", 2, false, 1, 1, 1, 0, 0, 1);
    }

    /** "one of length 2 on that and the tray behind it .., if both are free". */
    private static void aLongItemNeedsTwoFreeTrays() {
        comesBy("long, a short one comes by", 1, false, 2, 1, 0, 0, 1, 1);
        comesBy("long, a long one comes by", 2, false, 2, 1, 0, 0, 0, 1);
    }

    /** Promise 7: "its trays are not free by that". */
    private static void missedItemsKeepTheirTrays() {
        comesBy("short, a missed short one comes by", 1, true, 1, 1, 1, 0, 1, 1);
        comesBy("short, a missed long one comes by", 2, true, 1, 1, 1, 0, 0, 1);
        comesBy("long, a missed short one comes by", 1, true, 2, 1, 0, 0, 1, 1);
        comesBy("long, a missed long one comes by", 2, true, 2, 1, 0, 0, 0, 1);
    }

    /** Puts a long item on this tray and the one behind it, by bringing it to induct 0 first. */
    private static LoopSorter withLongItemOn(int size, int tray) {
        LoopSorter x = new LoopSorter(size, 1);
        x.step(size - tray - 1);
        x.induct(0, 2, 15);
        x.step(1);
        return x;
    }

    /** "the tray behind it (the number before, T - 1 behind 0)". */
    private static void aLongItemLiesOnTheTrayBehindToo() {
        int[] sizes = {3, 4, 16, 199, 200};
        for (int size : sizes) {
            int[] owns = {0, 1, 2, size - 2, size - 1};
            for (int own : owns) {
                LoopSorter x = withLongItemOn(size, own);
                int behind = own == 0 ? size - 1 : own - 1;
                for (int k = 0; k < size; k++) {
                    String call = "of " + size + ", own tray " + own + ": tray(" + k + ")";
                    due.answer(call, x.tray(k), k == own || k == behind ? 1 : 0);
                }
            }
        }
    }

    /** "the first of them is its OWN". */
    private static void theFirstTrayIsItsOwn() {
        int[] sizes = {2, 3, 16, 200};
        for (int size : sizes) {
            int[] owns = {0, 1, size - 1};
            for (int own : owns) {
                LoopSorter x = withLongItemOn(size, own);
                due.answer("of " + size + ", own tray " + own + ": missed(1)", x.missed(1), own);
            }
        }
    }

    /** "(and T is 2 or more)": 1. */
    private static void aLongItemNeverFitsOnOneTray() {
        for (int i = 0; i < 4; i++) {
            LoopSorter x = new LoopSorter(1, 1);
            x.induct(i, 2, 3);
            x.induct(i, 1, 3);
            due.answer("step(1000)", x.step(1000), 0);
            due.answer("share(" + i + ")", x.share(i), 0);
            due.answer("tray(0)", x.tray(0), 0);
            due.answer("round(1)", x.round(1), 0);
            due.answer("it waits: missed(1)", x.missed(1), LoopSorter.STATE);
            due.answer("and the next behind it: missed(2)", x.missed(2), LoopSorter.STATE);
            x.induct((i + 1) % 4, 1, 3);
            due.answer("another induct goes on", x.step(2), 1);
        }
    }

    /** "(and T is 2 or more)": 2. */
    private static void aLongItemFillsALoopOfTwo() {
        LoopSorter x = new LoopSorter(2, 1);
        x.induct(0, 2, 8);
        x.induct(2, 1, 8);
        x.step(1);
        due.answer("share(0)", x.share(0), 1);
        due.answer("tray(0)", x.tray(0), 1);
        due.answer("tray(1)", x.tray(1), 1);
        due.answer("no tray is left: share(2)", x.share(2), 0);
        due.answer("step(1)", x.step(1), 1);
        due.answer("both are free: share(2)", x.share(2), 1);
    }

    /** "(and T is 2 or more)": 3. */
    private static void aLongItemLeavesOneTrayOfThree() {
        LoopSorter x = new LoopSorter(3, 1);
        // inducts at 0, 0, 1, 2: the long item lies at 0 and 2
        x.induct(0, 2, 15);
        x.induct(2, 1, 15);
        x.induct(3, 1, 15);
        x.step(1);
        due.answer("tray(2)", x.tray(2), 1);
        due.answer("tray(1)", x.tray(1), 1);
        due.answer("tray(0)", x.tray(0), 2);
        due.answer("share(3)", x.share(3), 0);
    }

    private static void traysThatBecameFreeAreUsedInTheSameStep() {
        LoopSorter x = new LoopSorter(1, 1);
        x.induct(0, 1, 7);
        x.induct(0, 1, 7);
        due.answer("step(1)", x.step(1), 0);
        due.answer("share(0)", x.share(0), 1);
        due.answer("step(1)", x.step(1), 1);
        due.answer("share(0)", x.share(0), 2);
        due.answer("tray(0)", x.tray(0), 2);
        LoopSorter y = new LoopSorter(2, 1);
        // a long one leaves both of its trays at once, for the next long one
        y.induct(2, 2, 15);
        y.induct(2, 2, 15);
        due.answer("step(2)", y.step(2), 0);
        due.answer("step(1)", y.step(1), 1);
        due.answer("share(2)", y.share(2), 2);
    }
}

/** Promise 3: step, and with it what the terms say of moves, chutes and turns. */
public final class StepTest {
    private static final Due due = new Due("StepTest");

    public static void main(String[] args) {
        wrongNumbersAreRefused();
        noStepChangesNothing();
        timeGoesWithStepsNotMoves();
        everyMoveLooksAtTheChutes();
        chutesComeInOrder();
        longItemsTakeTwoNeighbours();
        aLongItemNeedsBothTrays();
        aLongItemNeverFitsOnOneTray();
        aLongItemFillsTwoTrays();
        onlyTheOwnTrayGoesOut();
        theFirstOfARowHoldsTheOthers();
        theLeastShareComesFirst();
        anItemPutOnAtAChuteGoesRoundFirst();
        overstayedItemsTakeEitherChute();
        due.end();
    }

    private static void wrongNumbersAreRefused() {
        LoopSorter x = new LoopSorter(16, 1);
        x.induct(0, 1, 2);
        int[] wrong = {Integer.MIN_VALUE, -1, 1001, Integer.MAX_VALUE};
        for (int n : wrong) {
            due.answer("step(" + n + ")", x.step(n), LoopSorter.OUTSIDE);
        }
        due.answer("share(0)", x.share(0), 0);
        due.answer("step(1000)", x.step(1000), 1);
        due.answer("out(0, 2)", x.out(0, 2), 2);
    }

    private static void noStepChangesNothing() {
        LoopSorter x = new LoopSorter(16, 1);
        x.induct(0, 1, 2);
        due.answer("step(0)", x.step(0), 0);
        due.answer("share(0)", x.share(0), 0);
        x.step(1);
        due.answer("step(0)", x.step(0), 0);
        due.answer("tray(15)", x.tray(15), 1);
        due.answer("step(2)", x.step(2), 1);
        due.answer("out(0, 2)", x.out(0, 2), 2);
    }

    private static void timeGoesWithStepsNotMoves() {
        LoopSorter x = new LoopSorter(16, 1);
        x.speed(5);
        due.answer("step(1000)", x.step(1000), 0);
        x.induct(0, 1, 14);
        due.answer("step(1000)", x.step(1000), 1);
        // put on at the end of the step of time 1000, then moves 1-5, 6-10, 11-15
        due.answer("out(0, 2)", x.out(0, 2), 1003);
    }

    private static void everyMoveLooksAtTheChutes() {
        LoopSorter x = new LoopSorter(16, 1);
        for (int c = 1; c <= 4; c++) {
            x.induct(0, 1, c);
            x.induct(1, 1, 4 + c);
            x.induct(2, 1, 8 + c);
        }
        x.speed(5);
        x.step(1);
        due.answer("three go out in one step", x.step(1), 3);
        // items 1, 2, 3 are all one position before their chutes, so they leave in the order of the chutes
        due.answer("out(0, 1)", x.out(0, 1), 1);
        due.answer("out(1, 1)", x.out(1, 1), 5);
        due.answer("out(2, 1)", x.out(2, 1), 9);
        due.answer("step(3)", x.step(3), 9);
    }

    private static void chutesComeInOrder() {
        LoopSorter x = new LoopSorter(16, 1);
        x.induct(3, 1, 13);
        x.induct(0, 1, 1);
        x.induct(2, 1, 9);
        x.step(1);
        due.answer("step(1)", x.step(1), 3);
        due.answer("out(0, 0)", x.out(0, 0), 2);
        due.answer("out(1, 0)", x.out(1, 0), 3);
        due.answer("out(2, 0)", x.out(2, 0), 1);
        LoopSorter y = new LoopSorter(1, 1);
        y.full(3, true);
        y.induct(0, 1, 3);
        y.step(1);
        due.answer("shut out of 3, and into 15 in the same move", y.step(1), 1);
        due.answer("out(0, 1)", y.out(0, 1), 15);
        due.answer("out(0, 3)", y.out(0, 3), 1);
    }

    private static void longItemsTakeTwoNeighbours() {
        LoopSorter x = new LoopSorter(16, 1);
        x.induct(1, 2, 6);
        x.step(1);
        due.answer("tray(3)", x.tray(3), 1);
        due.answer("tray(2)", x.tray(2), 1);
        due.answer("tray(4)", x.tray(4), 0);
        due.answer("step(1)", x.step(1), 0);
        due.answer("step(1)", x.step(1), 1);
        due.answer("tray(3)", x.tray(3), 0);
        due.answer("tray(2)", x.tray(2), 0);
        LoopSorter y = new LoopSorter(16, 1);
        y.step(15);
        y.induct(0, 2, 6);
        y.step(1);
        due.answer("tray(0)", y.tray(0), 1);
        due.answer("T - 1 is behind 0: tray(15)", y.tray(15), 1);
        due.answer("tray(1)", y.tray(1), 0);
    }

    private static void aLongItemNeedsBothTrays() {
        LoopSorter x = new LoopSorter(5, 1);
        // induct 1 stands one position ahead of induct 0, so its long item would lie over induct 0's tray
        x.induct(0, 1, 15);
        x.induct(1, 2, 15);
        x.step(1);
        due.answer("share(0)", x.share(0), 1);
        due.answer("the tray behind is not free", x.share(1), 0);
        x.step(1);
        due.answer("nor the tray itself", x.share(1), 0);
        x.step(1);
        due.answer("now both are", x.share(1), 1);
    }

    private static void aLongItemNeverFitsOnOneTray() {
        LoopSorter x = new LoopSorter(1, 1);
        x.induct(0, 2, 3);
        x.induct(0, 1, 3);
        due.answer("step(1000)", x.step(1000), 0);
        due.answer("share(0)", x.share(0), 0);
        due.answer("tray(0)", x.tray(0), 0);
        due.answer("round(1)", x.round(1), 0);
        x.induct(1, 1, 3);
        due.answer("another induct goes on", x.step(2), 1);
    }

    private static void aLongItemFillsTwoTrays() {
        LoopSorter x = new LoopSorter(2, 1);
        x.induct(0, 2, 8);
        x.induct(2, 1, 8);
        x.step(1);
        due.answer("tray(0)", x.tray(0), 1);
        due.answer("tray(1)", x.tray(1), 1);
        due.answer("share(2)", x.share(2), 0);
        due.answer("step(1)", x.step(1), 1);
        due.answer("share(2)", x.share(2), 1);
    }

    private static void onlyTheOwnTrayGoesOut() {
        LoopSorter x = new LoopSorter(16, 1);
        x.induct(0, 2, 0);
        x.step(1);
        // after one move the other tray is at position 0, chute 0's, and the own one is past it
        due.answer("step(15)", x.step(15), 0);
        due.answer("step(1)", x.step(1), 1);
        due.answer("out(0, 3)", x.out(0, 3), 0);
        LoopSorter y = new LoopSorter(16, 20);
        y.full(2, true);
        y.induct(0, 2, 2);
        y.step(4);
        due.answer("the other tray passes nothing: round(1)", y.round(1), 1);
    }

    private static void theFirstOfARowHoldsTheOthers() {
        LoopSorter x = new LoopSorter(6, 1);
        // inducts at 0, 1, 3, 4: the short item of induct 0 lies behind induct 1's tray
        x.induct(1, 2, 15);
        x.induct(1, 1, 15);
        x.induct(0, 1, 15);
        x.step(1);
        due.answer("share(0)", x.share(0), 1);
        due.answer("share(1)", x.share(1), 0);
        due.answer("tray(0), where the second could lie", x.tray(0), 0);
    }

    private static void theLeastShareComesFirst() {
        LoopSorter x = new LoopSorter(1, 1);
        x.induct(0, 1, 7);
        x.induct(0, 1, 7);
        x.induct(0, 1, 7);
        x.step(3);
        due.answer("share(0)", x.share(0), 3);
        int[] row = {3, 3, 2, 2, 1, 0};
        for (int i = 0; i < row.length; i++) {
            due.answer("induct(" + row[i] + ", 1, 7)", x.induct(row[i], 1, 7), 4 + i);
        }
        due.answer("step(7)", x.step(7), 7);
        // one goes out and one is put on a step: least shares first, of these the least number
        int[] order = {8, 6, 4, 7, 5, 9};
        for (int i = 0; i < order.length; i++) {
            due.answer("out(" + (3 + i) + ", 0)", x.out(3 + i, 0), order[i]);
        }
    }

    private static void anItemPutOnAtAChuteGoesRoundFirst() {
        LoopSorter x = new LoopSorter(16, 1);
        x.induct(1, 1, 4);
        due.answer("step(16)", x.step(16), 0);
        due.answer("step(1)", x.step(1), 1);
        due.answer("out(0, 2)", x.out(0, 2), 16);
        due.answer("out(0, 3)", x.out(0, 3), 0);
    }

    private static void overstayedItemsTakeEitherChute() {
        LoopSorter x = new LoopSorter(16, 2);
        x.full(1, true);
        x.induct(0, 1, 1);
        x.step(2);
        due.answer("round(1)", x.round(1), 1);
        due.answer("not yet overstayed, past 15", x.step(16), 0);
        due.answer("round(1)", x.round(1), 2);
        x.missed(1);
        x.step(15);
        x.found(1, 15);
        x.full(1, false);
        due.answer("overstayed, and room where it is to", x.step(1), 1);
        due.answer("out(0, 1)", x.out(0, 1), 1);
        due.answer("out(0, 3)", x.out(0, 3), 2);
    }
}

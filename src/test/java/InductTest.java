/** Promise 2: induct. */
public final class InductTest {
    private static final Due due = new Due("InductTest");

    public static void main(String[] args) {
        numbersAreGivenInOrder();
        aRowIsServedFromItsFront();
        eightWaitAndNoMore();
        wrongInputsAreRefused();
        fourHundredAreRoomForAll();
        due.end();
    }

    private static void numbersAreGivenInOrder() {
        LoopSorter x = new LoopSorter(40, 2);
        due.answer("induct(3, 2, 15)", x.induct(3, 2, 15), 1);
        due.answer("induct(0, 1, 0)", x.induct(0, 1, 0), 2);
        due.answer("induct(3, 1, 7)", x.induct(3, 1, 7), 3);
        due.answer("induct(4, 1, 7)", x.induct(4, 1, 7), LoopSorter.UNKNOWN);
        due.answer("induct(2, 2, 7)", x.induct(2, 2, 7), 4);
    }

    private static void aRowIsServedFromItsFront() {
        LoopSorter x = new LoopSorter(40, 2);
        for (int n = 1; n <= 8; n++) {
            due.answer("induct(0, 1, 9)", x.induct(0, 1, 9), n);
        }
        for (int n = 1; n <= 8; n++) {
            x.step(1);
            due.answer("tray(" + (40 - n) + ")", x.tray(40 - n), n);
        }
    }

    private static void eightWaitAndNoMore() {
        LoopSorter x = new LoopSorter(40, 2);
        for (int n = 1; n <= 8; n++) {
            due.answer("induct(1, 1, 9)", x.induct(1, 1, 9), n);
        }
        due.answer("ninth", x.induct(1, 1, 9), 0);
        due.answer("ninth again", x.induct(1, 2, 9), 0);
        due.answer("round(9)", x.round(9), LoopSorter.UNKNOWN);
        due.answer("at another induct", x.induct(2, 1, 9), 9);
        due.answer("unknown chute at a full row", x.induct(1, 1, 16), LoopSorter.UNKNOWN);
        due.answer("wrong length at a full row", x.induct(1, 3, 9), LoopSorter.OUTSIDE);
        x.step(1);
        due.answer("when one was put on", x.induct(1, 1, 9), 10);
        due.answer("full again", x.induct(1, 1, 9), 0);
        x.step(8);
        due.answer("share(1)", x.share(1), 9);
        due.answer("share(2)", x.share(2), 1);
    }

    private static void wrongInputsAreRefused() {
        LoopSorter x = new LoopSorter(40, 2);
        int[] noInducts = {Integer.MIN_VALUE, -1, 4, 5, Integer.MAX_VALUE};
        for (int induct : noInducts) {
            due.answer("induct(" + induct + ", 1, 0)", x.induct(induct, 1, 0), LoopSorter.UNKNOWN);
            due.answer("induct(" + induct + ", 3, 0)", x.induct(induct, 3, 0), LoopSorter.UNKNOWN);
        }
        int[] noChutes = {Integer.MIN_VALUE, -1, 16, 17, Integer.MAX_VALUE};
        for (int chute : noChutes) {
            due.answer("induct(0, 1, " + chute + ")", x.induct(0, 1, chute), LoopSorter.UNKNOWN);
            due.answer("induct(0, 0, " + chute + ")", x.induct(0, 0, chute), LoopSorter.UNKNOWN);
        }
        int[] noLengths = {Integer.MIN_VALUE, -1, 0, 3, 4, Integer.MAX_VALUE};
        for (int length : noLengths) {
            due.answer("induct(0, " + length + ", 0)", x.induct(0, length, 0), LoopSorter.OUTSIDE);
        }
        due.answer("the first item", x.induct(0, 1, 0), 1);
    }

    private static void fourHundredAreRoomForAll() {
        LoopSorter x = new LoopSorter(200, 1);
        for (int n = 1; n <= 384; n++) {
            due.answer("item " + n, x.induct(n % 4, 1, 15), n);
            if (n % 32 == 0) {
                x.step(1000);
            }
        }
        for (int n = 385; n <= 400; n++) {
            due.answer("item " + n, x.induct(n % 2, 1, 15), n);
        }
        due.answer("the 401st, at an empty row", x.induct(2, 1, 15), LoopSorter.ROOM);
        due.answer("the 401st, at a full row", x.induct(0, 1, 15), LoopSorter.ROOM);
        due.answer("no such induct", x.induct(4, 1, 15), LoopSorter.UNKNOWN);
        due.answer("no such chute", x.induct(0, 1, 16), LoopSorter.UNKNOWN);
        due.answer("no such length", x.induct(0, 3, 15), LoopSorter.OUTSIDE);
        due.answer("round(400)", x.round(400), 0);
        due.answer("round(401)", x.round(401), LoopSorter.UNKNOWN);
        due.answer("the last ones go out", x.step(1000), 16);
        due.answer("out(399, 1)", x.out(399, 1), 15);
        due.answer("out(400, 1)", x.out(400, 1), LoopSorter.UNKNOWN);
        due.answer("there were 400", x.induct(0, 1, 15), LoopSorter.ROOM);
        due.answer("full(15, false)", x.full(15, false), 400);
    }
}

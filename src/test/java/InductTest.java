/** Promise 2: induct, and the rows in which items wait. */
public final class InductTest {
    private static final Due due = new Due("InductTest");

    public static void main(String[] args) {
        numbersAreGivenInOrder();
        itemsWaitBehindThoseThere();
        eightWaitAndNoMore();
        anInductThatCanPutNothingOnStaysFull();
        noNumberIsUsedWhenEightWait();
        noSuchInducts();
        noSuchChutes();
        noSuchLengths();
        thereAreFourHundred();
        allAreUsedWhileEightWait();
        due.end();
    }

    /** "its number (1, 2, ..)". */
    private static void numbersAreGivenInOrder() {
        LoopSorter x = new LoopSorter(40, 2);
        due.answer("induct(3, 2, 15)", x.induct(3, 2, 15), 1);
        due.answer("induct(0, 1, 0)", x.induct(0, 1, 0), 2);
        due.answer("induct(3, 1, 7)", x.induct(3, 1, 7), 3);
        due.answer("induct(4, 1, 7)", x.induct(4, 1, 7), LoopSorter.UNKNOWN);
        due.answer("induct(2, 2, 7)", x.induct(2, 2, 7), 4);
        x.step(1000);
        due.answer("numbers are not used again: induct(2, 2, 7)", x.induct(2, 2, 7), 5);
    }

    /** "An item waits at an induct, behind those there". */
    private static void itemsWaitBehindThoseThere() {
        LoopSorter x = new LoopSorter(40, 2);
        for (int n = 1; n <= 8; n++) {
            due.answer("induct(0, 1, 9)", x.induct(0, 1, 9), n);
        }
        for (int n = 1; n <= 8; n++) {
            x.step(1);
            due.answer("tray(" + (40 - n) + ")", x.tray(40 - n), n);
            if (n <= 4) {
                due.answer("behind those that are left", x.induct(0, 1, 9), 8 + n);
            }
        }
        for (int n = 9; n <= 12; n++) {
            x.step(1);
            due.answer("tray(" + (40 - n) + ")", x.tray(40 - n), n);
        }
    }

    /** "a row of items that WAIT, 8 at most": the 7th, the 8th, the 9th, at each induct. */
    private static void eightWaitAndNoMore() {
        for (int i = 0; i < 4; i++) {
            LoopSorter x = new LoopSorter(40, 2);
            for (int n = 1; n <= 8; n++) {
                due.answer("induct(" + i + ", 1, 9)", x.induct(i, 1, 9), n);
            }
            due.answer("the ninth at " + i, x.induct(i, 1, 9), 0);
            x.step(1);
            due.answer("one was put on", x.induct(i, 1, 9), 9);
            due.answer("full again", x.induct(i, 1, 9), 0);
            x.step(2);
            due.answer("two were put on", x.induct(i, 1, 9), 10);
            due.answer("two were put on", x.induct(i, 1, 9), 11);
            due.answer("full again", x.induct(i, 1, 9), 0);
            x.step(100);
            due.answer("share(" + i + ")", x.share(i), 11);
        }
    }

    private static void anInductThatCanPutNothingOnStaysFull() {
        LoopSorter x = new LoopSorter(1, 2);
        for (int n = 1; n <= 8; n++) {
            due.answer("induct(1, 2, 9)", x.induct(1, 2, 9), n);
        }
        x.step(1000);
        due.answer("long ones on a loop of one tray", x.induct(1, 1, 9), 0);
    }

    /** "0, and there is none (no number is used), when 8 wait there". */
    private static void noNumberIsUsedWhenEightWait() {
        LoopSorter x = new LoopSorter(40, 2);
        for (int i = 0; i < 4; i++) {
            for (int n = 1; n <= 8; n++) {
                due.answer("induct(" + i + ", 1, 9)", x.induct(i, 1, 9), 8 * i + n);
            }
            for (int j = 0; j <= i; j++) {
                due.answer("full: induct(" + j + ", 2, 0)", x.induct(j, 2, 0), 0);
            }
            due.answer("there is none: round", x.round(8 * i + 9), LoopSorter.UNKNOWN);
            due.answer("there is none: missed", x.missed(8 * i + 9), LoopSorter.UNKNOWN);
        }
        x.step(8);
        for (int i = 0; i < 4; i++) {
            due.answer("share(" + i + ")", x.share(i), 8);
        }
        x.step(1);
        due.answer("nothing more waited: share(0)", x.share(0), 8);
        due.answer("induct(0, 1, 9)", x.induct(0, 1, 9), 33);
    }

    /** UNKNOWN (induct): -1, 0 and 3, 4. */
    private static void noSuchInducts() {
        LoopSorter x = new LoopSorter(40, 2);
        int[] noInducts = {Integer.MIN_VALUE, -2, -1, 4, 5, Integer.MAX_VALUE};
        for (int induct : noInducts) {
            due.answer("induct(" + induct + ", 1, 0)", x.induct(induct, 1, 0), LoopSorter.UNKNOWN);
        }
        due.answer("induct(0, 1, 0)", x.induct(0, 1, 0), 1);
        due.answer("induct(3, 1, 0)", x.induct(3, 1, 0), 2);
    }

    /** UNKNOWN (chute): -1, 0 and 15, 16. */
    private static void noSuchChutes() {
        LoopSorter x = new LoopSorter(40, 2);
        int[] noChutes = {Integer.MIN_VALUE, -2, -1, 16, 17, Integer.MAX_VALUE};
        for (int chute : noChutes) {
            due.answer("induct(0, 1, " + chute + ")", x.induct(0, 1, chute), LoopSorter.UNKNOWN);
        }
        due.answer("induct(0, 1, 0)", x.induct(0, 1, 0), 1);
        due.answer("induct(0, 1, 15)", x.induct(0, 1, 15), 2);
    }

    /** "OUTSIDE (a length is not 1 or 2)": 0, 1, 2, 3. */
    private static void noSuchLengths() {
        LoopSorter x = new LoopSorter(40, 2);
        int[] noLengths = {Integer.MIN_VALUE, -2, -1, 0, 3, 4, Integer.MAX_VALUE};
        for (int length : noLengths) {
            due.answer("induct(0, " + length + ", 0)", x.induct(0, length, 0), LoopSorter.OUTSIDE);
        }
        due.answer("induct(0, 1, 0)", x.induct(0, 1, 0), 1);
        due.answer("induct(0, 2, 0)", x.induct(0, 2, 0), 2);
    }

    /** A loop on which items 1 .. n were inducted and, up to the last whole 32 of them, went out. */
    private static LoopSorter withItems(int n) {
        LoopSorter x = new LoopSorter(200, 1);
        for (int item = 1; item <= n; item++) {
            due.answer("item " + item, x.induct(item % 4, 1, 15), item);
            if (item % 32 == 0) {
                x.step(1000);
            }
        }
        return x;
    }

    /** "ROOM (there were 400)": the 399th, the 400th, the 401st. */
    private static void thereAreFourHundred() {
        LoopSorter x = withItems(398);
        due.answer("the 399th", x.induct(0, 1, 15), 399);
        due.answer("not yet: round(400)", x.round(400), LoopSorter.UNKNOWN);
        due.answer("the 400th", x.induct(1, 2, 15), 400);
        due.answer("round(400)", x.round(400), 0);
        for (int i = 0; i < 4; i++) {
            due.answer("the 401st, at " + i, x.induct(i, 1, 15), LoopSorter.ROOM);
        }
        due.answer("round(401)", x.round(401), LoopSorter.UNKNOWN);
        due.answer("missed(401)", x.missed(401), LoopSorter.UNKNOWN);
        due.answer("found(401, 0)", x.found(401, 0), LoopSorter.UNKNOWN);
        due.answer("the last ones go out", x.step(1000), 16);
        due.answer("there were 400, though all went out", x.induct(0, 1, 15), LoopSorter.ROOM);
        boolean lastIsThere = false;
        for (int i = 384; i < 400; i++) {
            lastIsThere |= x.out(i, 0) == 400;
        }
        due.answer("the 400th went out, too", lastIsThere ? 1 : 0, 1);
        due.answer("out(400, 0)", x.out(400, 0), LoopSorter.UNKNOWN);
    }

    /** With 399 used a full row answers 0, as ever; with 400 used ROOM is the refusal, whatever waits. */
    private static void allAreUsedWhileEightWait() {
        LoopSorter x = withItems(384);
        for (int item = 385; item <= 399; item++) {
            due.answer("item " + item, x.induct(item < 393 ? 0 : 1, 1, 15), item);
        }
        due.answer("399 used, 8 wait: induct(0, 1, 15)", x.induct(0, 1, 15), 0);
        due.answer("399 used, 7 wait: induct(1, 1, 15)", x.induct(1, 1, 15), 400);
        due.answer("400 used, 8 wait: induct(0, 1, 15)", x.induct(0, 1, 15), LoopSorter.ROOM);
        due.answer("400 used, 8 wait: induct(1, 1, 15)", x.induct(1, 1, 15), LoopSorter.ROOM);
        due.answer("400 used, none waits: induct(2, 1, 15)", x.induct(2, 1, 15), LoopSorter.ROOM);
        due.answer("all go out", x.step(1000), 16);
        due.answer("full(15, false)", x.full(15, false), 400);
    }
}

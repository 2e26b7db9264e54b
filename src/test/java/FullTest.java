/** Promise 6: full. */
public final class FullTest {
    private static final Due due = new Due("FullTest");

    public static void main(String[] args) {
        tellsHowManyLayInItBefore();
        aShutChuteStaysShutUntilItIsEmptied();
        shutAgainIsAsShutOnce();
        whatLiesInAShutChuteStays();
        aFullChuteMayBeShutToo();
        theOverflowIsNeverHeldShut();
        noSuchChutes();
        due.end();
    }

    /** Has so many items go round once on a loop of 16: how many went out in that. */
    private static int send(LoopSorter x, int items, int chute) {
        int gone = 0;
        for (int i = 0; i < items; i++) {
            x.induct(0, 1, chute);
            gone += x.step(17);
        }
        return gone;
    }

    /** "how many items lay in it before". */
    private static void tellsHowManyLayInItBefore() {
        for (int c = 0; c < 16; c++) {
            LoopSorter x = new LoopSorter(16, 20);
            due.answer("none: full(" + c + ", false)", x.full(c, false), 0);
            send(x, 1, c);
            due.answer("one: full(" + c + ", false)", x.full(c, false), 1);
            due.answer("emptied: full(" + c + ", false)", x.full(c, false), 0);
            send(x, 9, c);
            due.answer("nine: full(" + c + ", false)", x.full(c, false), 9);
            send(x, 10, c);
            due.answer("ten: full(" + c + ", false)", x.full(c, false), 10);
            due.answer("others had none: full(" + (c + 1) % 16 + ", false)", x.full((c + 1) % 16, false), 0);
        }
    }

    /** "held shut, so that there is no room in it until it is emptied". */
    private static void aShutChuteStaysShutUntilItIsEmptied() {
        for (int c = 0; c < 15; c++) {
            LoopSorter x = new LoopSorter(16, 20);
            due.answer("full(" + c + ", true)", x.full(c, true), 0);
            due.answer("no room", send(x, 1, c), 0);
            due.answer("round(1)", x.round(1), 1);
            due.answer("the next is open", send(x, 1, c + 1), 1);
            due.answer("still shut", x.step(160), 0);
            due.answer("full(" + c + ", false)", x.full(c, false), 0);
            due.answer("room", x.step(16), 1);
            due.answer("out(1, 1)", x.out(1, 1), c);
            due.answer("full(" + c + ", true)", x.full(c, true), 1);
            due.answer("shut once more", send(x, 1, c), 0);
        }
    }

    /** "again as once": one emptying opens what was shut twice. */
    private static void shutAgainIsAsShutOnce() {
        for (int times = 1; times <= 3; times++) {
            LoopSorter x = new LoopSorter(16, 20);
            send(x, 2, 4);
            for (int i = 0; i < times; i++) {
                due.answer("full(4, true)", x.full(4, true), 2);
            }
            due.answer("shut " + times + " times", send(x, 1, 4), 0);
            due.answer("full(4, false)", x.full(4, false), 2);
            due.answer("opened once", x.step(16), 1);
        }
    }

    /** "what lies in it stays". */
    private static void whatLiesInAShutChuteStays() {
        LoopSorter x = new LoopSorter(16, 20);
        send(x, 3, 4);
        due.answer("full(4, true)", x.full(4, true), 3);
        due.answer("no room", send(x, 1, 4), 0);
        due.answer("full(4, true)", x.full(4, true), 3);
        due.answer("full(4, false)", x.full(4, false), 3);
        due.answer("step(16)", x.step(16), 1);
        due.answer("ten in all from the emptying on", send(x, 10, 4), 9);
        due.answer("full(4, true)", x.full(4, true), 10);
        due.answer("full(4, false)", x.full(4, false), 10);
    }

    private static void aFullChuteMayBeShutToo() {
        LoopSorter x = new LoopSorter(16, 20);
        due.answer("ten", send(x, 10, 4), 10);
        due.answer("full(4, true)", x.full(4, true), 10);
        due.answer("full(4, false)", x.full(4, false), 10);
        due.answer("open, and empty", send(x, 11, 4), 10);
    }

    /** "STATE (chute 15 is held shut)": 14, 15. */
    private static void theOverflowIsNeverHeldShut() {
        LoopSorter x = new LoopSorter(16, 20);
        send(x, 2, 15);
        due.answer("full(15, true)", x.full(15, true), LoopSorter.STATE);
        due.answer("full(15, true)", x.full(15, true), LoopSorter.STATE);
        due.answer("it is open", send(x, 1, 15), 1);
        due.answer("nothing was emptied: full(15, false)", x.full(15, false), 3);
        due.answer("full(15, false)", x.full(15, false), 0);
        due.answer("full(14, true)", x.full(14, true), 0);
        due.answer("14 is shut", send(x, 1, 14), 0);
    }

    /** UNKNOWN: -1, 0 and 15, 16. */
    private static void noSuchChutes() {
        LoopSorter x = new LoopSorter(16, 20);
        int[] noChutes = {Integer.MIN_VALUE, -2, -1, 16, 17, Integer.MAX_VALUE};
        for (int chute : noChutes) {
            due.answer("full(" + chute + ", true)", x.full(chute, true), LoopSorter.UNKNOWN);
            due.answer("full(" + chute + ", false)", x.full(chute, false), LoopSorter.UNKNOWN);
        }
        due.answer("full(0, true)", x.full(0, true), 0);
        due.answer("full(0, false)", x.full(0, false), 0);
        due.answer("full(15, false)", x.full(15, false), 0);
    }
}

/** Promise 6: full, and the room that chutes have. */
public final class FullTest {
    private static final Due due = new Due("FullTest");

    public static void main(String[] args) {
        aChuteHasRoomForTen();
        theOverflowHasRoomForAll();
        aShutChuteStaysShutUntilItIsEmptied();
        whatLiesInAShutChuteStays();
        wrongInputsAreRefused();
        due.end();
    }

    /** Inducts so many items at induct 0 and gives them time to leave; how many went out. */
    private static int send(LoopSorter x, int items, int chute) {
        int gone = 0;
        for (int i = 0; i < items; i++) {
            x.induct(0, 1, chute);
            gone += x.step(16);
        }
        return gone;
    }

    private static void aChuteHasRoomForTen() {
        LoopSorter x = new LoopSorter(16, 20);
        due.answer("ten go out", send(x, 10, 4), 10);
        due.answer("the next has no room", send(x, 1, 4), 0);
        due.answer("round(11)", x.round(11), 1);
        due.answer("full(4, false)", x.full(4, false), 10);
        due.answer("it goes out when there is room", x.step(16), 1);
        due.answer("out(10, 1)", x.out(10, 1), 4);
        due.answer("out(10, 3)", x.out(10, 3), 1);
        due.answer("full(4, false)", x.full(4, false), 1);
        due.answer("full(4, false)", x.full(4, false), 0);
    }

    private static void theOverflowHasRoomForAll() {
        LoopSorter x = new LoopSorter(16, 20);
        due.answer("all go out", send(x, 40, 15), 40);
        due.answer("full(15, true)", x.full(15, true), LoopSorter.STATE);
        due.answer("more go out", send(x, 1, 15), 1);
        due.answer("full(15, false)", x.full(15, false), 41);
        due.answer("full(15, false)", x.full(15, false), 0);
    }

    private static void aShutChuteStaysShutUntilItIsEmptied() {
        LoopSorter x = new LoopSorter(16, 20);
        due.answer("full(4, true)", x.full(4, true), 0);
        due.answer("again as once: full(4, true)", x.full(4, true), 0);
        due.answer("no room", send(x, 1, 4), 0);
        due.answer("other chutes are open", send(x, 1, 5), 1);
        due.answer("full(4, false)", x.full(4, false), 0);
        due.answer("room", x.step(16), 1);
        due.answer("full(4, true)", x.full(4, true), 1);
    }

    private static void whatLiesInAShutChuteStays() {
        LoopSorter x = new LoopSorter(16, 20);
        send(x, 3, 4);
        due.answer("full(4, true)", x.full(4, true), 3);
        due.answer("full(4, true)", x.full(4, true), 3);
        due.answer("no room", send(x, 1, 4), 0);
        due.answer("full(4, false)", x.full(4, false), 3);
        due.answer("step(16)", x.step(16), 1);
        due.answer("ten in all from the emptying on", send(x, 10, 4), 9);
        due.answer("full(4, true)", x.full(4, true), 10);
        due.answer("full(4, false)", x.full(4, false), 10);
    }

    private static void wrongInputsAreRefused() {
        LoopSorter x = new LoopSorter(16, 20);
        int[] noChutes = {Integer.MIN_VALUE, -1, 16, 17, Integer.MAX_VALUE};
        for (int chute : noChutes) {
            due.answer("full(" + chute + ", true)", x.full(chute, true), LoopSorter.UNKNOWN);
            due.answer("full(" + chute + ", false)", x.full(chute, false), LoopSorter.UNKNOWN);
        }
        due.answer("full(15, true)", x.full(15, true), LoopSorter.STATE);
        due.answer("full(15, false)", x.full(15, false), 0);
        due.answer("full(14, true)", x.full(14, true), 0);
        due.answer("full(0, true)", x.full(0, true), 0);
    }
}

/** Terms: how much room there is in chutes, and in the overflow. */
public final class RoomTest {
    private static final Due due = new Due("RoomTest");

    public static void main(String[] args) {
        aChuteHasRoomForTen();
        anEmptiedChuteHasRoomForTenAgain();
        eachChuteHasItsOwnRoom();
        theOverflowHasRoomForAll();
        theOverflowHasRoomForAllThatOverstayed();
        theOverflowHasRoomForFourHundred();
        due.end();
    }

    /** Has an item go round once on a loop of 16: how many went out in that. */
    private static int send(LoopSorter x, int chute) {
        x.induct(0, 1, chute);
        return x.step(17);
    }

    /** "Chutes have room for 10 items": the 9th, the 10th, the 11th. */
    private static void aChuteHasRoomForTen() {
        for (int c = 0; c < 15; c++) {
            LoopSorter x = new LoopSorter(16, 20);
            for (int n = 1; n <= 10; n++) {
                due.answer("item " + n + " to chute " + c, send(x, c), 1);
            }
            due.answer("item 11 to chute " + c, send(x, c), 0);
            due.answer("it has passed: round(11)", x.round(11), 1);
            due.answer("item 10 has not: round(10)", x.round(10), 0);
            due.answer("item 12 to chute " + c, send(x, c), 0);
            due.answer("ten lie there: full(" + c + ", false)", x.full(c, false), 10);
        }
    }

    private static void anEmptiedChuteHasRoomForTenAgain() {
        for (int lying = 9; lying <= 10; lying++) {
            LoopSorter x = new LoopSorter(16, 20);
            for (int n = 1; n <= lying; n++) {
                send(x, 4);
            }
            due.answer("full(4, false)", x.full(4, false), lying);
            for (int n = 1; n <= 10; n++) {
                due.answer("item " + n + " since then", send(x, 4), 1);
            }
            due.answer("item 11 since then", send(x, 4), 0);
            due.answer("full(4, false)", x.full(4, false), 10);
            due.answer("the one that went round", x.step(16), 1);
            due.answer("full(4, false)", x.full(4, false), 1);
        }
    }

    private static void eachChuteHasItsOwnRoom() {
        LoopSorter x = new LoopSorter(16, 20);
        for (int n = 0; n < 11; n++) {
            send(x, 6);
        }
        due.answer("to 5", send(x, 5), 1);
        due.answer("to 7", send(x, 7), 1);
        due.answer("full(5, false)", x.full(5, false), 1);
        due.answer("full(7, false)", x.full(7, false), 1);
        due.answer("full(6, false)", x.full(6, false), 10);
    }

    /** "chute 15 is the OVERFLOW and has room for all": the 10th, the 11th, the 12th, and on. */
    private static void theOverflowHasRoomForAll() {
        LoopSorter x = new LoopSorter(16, 1);
        for (int n = 1; n <= 40; n++) {
            due.answer("item " + n + " to chute 15", send(x, 15), 1);
        }
        due.answer("full(15, false)", x.full(15, false), 40);
        due.answer("full(15, false)", x.full(15, false), 0);
    }

    private static void theOverflowHasRoomForAllThatOverstayed() {
        LoopSorter x = new LoopSorter(16, 1);
        x.full(3, true);
        for (int n = 1; n <= 12; n++) {
            due.answer("item " + n + " to shut chute 3", send(x, 3), 1);
            due.answer("out(" + (n - 1) + ", 1)", x.out(n - 1, 1), 15);
            due.answer("out(" + (n - 1) + ", 3)", x.out(n - 1, 3), 1);
        }
        due.answer("full(3, false)", x.full(3, false), 0);
        due.answer("full(15, false)", x.full(15, false), 12);
    }

    private static void theOverflowHasRoomForFourHundred() {
        LoopSorter x = new LoopSorter(200, 1);
        x.full(8, true);
        int gone = 0;
        for (int n = 0; n < 400; n++) {
            x.induct(n / 8 % 4, 1, n % 2 == 0 ? 15 : 8);
            if (n % 32 == 31 || n == 399) {
                gone += x.step(1000);
            }
        }
        due.answer("all went out", gone, 400);
        due.answer("out(399, 1)", x.out(399, 1), 15);
        due.answer("full(15, false)", x.full(15, false), 400);
    }
}

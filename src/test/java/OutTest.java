/** Promise 4: out. */
public final class OutTest {
    private static final Due due = new Due("OutTest");

    public static void main(String[] args) {
        tellsOfEachItemThatWentOut();
        tellsTheOverflowOfAnOverstayedItem();
        wrongInputsAreRefused();
        due.end();
    }

    private static void row(LoopSorter x, int i, int number, int chute, int time, int rounds) {
        due.answer("out(" + i + ", 0)", x.out(i, 0), number);
        due.answer("out(" + i + ", 1)", x.out(i, 1), chute);
        due.answer("out(" + i + ", 2)", x.out(i, 2), time);
        due.answer("out(" + i + ", 3)", x.out(i, 3), rounds);
    }

    private static void tellsOfEachItemThatWentOut() {
        LoopSorter x = new LoopSorter(16, 3);
        x.induct(0, 1, 9);
        x.induct(0, 2, 3);
        x.induct(2, 1, 15);
        due.answer("step(20)", x.step(20), 3);
        row(x, 0, 2, 3, 4, 0);
        row(x, 1, 3, 15, 7, 0);
        row(x, 2, 1, 9, 9, 0);
        x.step(500);
        row(x, 0, 2, 3, 4, 0);
    }

    private static void tellsTheOverflowOfAnOverstayedItem() {
        LoopSorter x = new LoopSorter(16, 2);
        x.full(6, true);
        x.induct(0, 1, 6);
        x.step(100);
        row(x, 0, 1, 15, 31, 2);
        x.full(6, false);
        x.full(15, false);
        row(x, 0, 1, 15, 31, 2);
    }

    private static void wrongInputsAreRefused() {
        LoopSorter x = new LoopSorter(16, 2);
        due.answer("out(0, 0)", x.out(0, 0), LoopSorter.UNKNOWN);
        due.answer("out(0, 4)", x.out(0, 4), LoopSorter.UNKNOWN);
        x.induct(0, 1, 1);
        x.induct(0, 1, 1);
        x.step(2);
        int[] noRows = {Integer.MIN_VALUE, -1, 1, 2, 400, Integer.MAX_VALUE};
        for (int i : noRows) {
            due.answer("out(" + i + ", 0)", x.out(i, 0), LoopSorter.UNKNOWN);
            due.answer("out(" + i + ", 9)", x.out(i, 9), LoopSorter.UNKNOWN);
        }
        int[] noWhats = {Integer.MIN_VALUE, -1, 4, 5, Integer.MAX_VALUE};
        for (int what : noWhats) {
            due.answer("out(0, " + what + ")", x.out(0, what), LoopSorter.OUTSIDE);
        }
    }
}

/** Promise 5: tray. */
public final class TrayTest {
    private static final Due due = new Due("TrayTest");

    public static void main(String[] args) {
        tellsWhatLiesOnEachTray();
        aLongItemLiesOnBothOfIts();
        tellsMissedItemsToo();
        aTrayIsFreeBeforeAndAfter();
        throwsWhereThereIsNoTray();
        due.end();
    }

    private static void tellsWhatLiesOnEachTray() {
        LoopSorter x = new LoopSorter(8, 2);
        x.induct(0, 2, 12);
        x.induct(2, 1, 2);
        x.step(1);
        int[] loop = {0, 0, 0, 2, 0, 0, 1, 1};
        for (int k = 0; k < loop.length; k++) {
            due.answer("tray(" + k + ")", x.tray(k), loop[k]);
        }
        x.step(1);
        for (int k = 0; k < loop.length; k++) {
            due.answer("trays carry it along: tray(" + k + ")", x.tray(k), loop[k]);
        }
        x.step(20);
        for (int k = 0; k < loop.length; k++) {
            due.answer("all went out: tray(" + k + ")", x.tray(k), 0);
        }
    }

    /** "a long one on both of its": and on neither when it went out. */
    private static void aLongItemLiesOnBothOfIts() {
        int[] sizes = {2, 3, 16, 200};
        for (int size : sizes) {
            LoopSorter x = new LoopSorter(size, 2);
            x.step(size - 1);
            x.induct(0, 2, 15);
            x.step(1);
            due.answer("of " + size + ": tray(0)", x.tray(0), 1);
            due.answer("of " + size + ": tray(T - 1)", x.tray(size - 1), 1);
            due.answer("of " + size + ": step(T)", x.step(size), 1);
            due.answer("of " + size + ": tray(0)", x.tray(0), 0);
            due.answer("of " + size + ": tray(T - 1)", x.tray(size - 1), 0);
        }
    }

    /** "MISSED ones, too". */
    private static void tellsMissedItemsToo() {
        LoopSorter x = new LoopSorter(8, 2);
        x.induct(0, 2, 12);
        x.induct(2, 1, 12);
        x.step(1);
        x.missed(1);
        x.missed(2);
        for (int i = 0; i < 2; i++) {
            due.answer("tray(7)", x.tray(7), 1);
            due.answer("tray(6)", x.tray(6), 1);
            due.answer("tray(3)", x.tray(3), 2);
            x.step(100);
        }
    }

    /** "0 when it is free": in the step before it was put on, and when it went out. */
    private static void aTrayIsFreeBeforeAndAfter() {
        LoopSorter x = new LoopSorter(16, 2);
        x.induct(0, 1, 2);
        due.answer("it waits: tray(15)", x.tray(15), 0);
        x.step(1);
        due.answer("put on: tray(15)", x.tray(15), 1);
        x.step(1);
        due.answer("before its chute: tray(15)", x.tray(15), 1);
        x.step(1);
        due.answer("out: tray(15)", x.tray(15), 0);
    }

    /** "when there is no such tray": -1, 0 and T - 1, T. */
    private static void throwsWhereThereIsNoTray() {
        int[] sizes = {1, 2, 8, 199, 200};
        for (int size : sizes) {
            LoopSorter x = new LoopSorter(size, 2);
            int[] noTrays = {Integer.MIN_VALUE, -2, -1, size, size + 1, Integer.MAX_VALUE};
            for (int k : noTrays) {
                due.noSuchTray("tray(" + k + ") of " + size, () -> x.tray(k));
            }
            due.answer("tray(0) of " + size, x.tray(0), 0);
            due.answer("tray(T - 1) of " + size, x.tray(size - 1), 0);
        }
    }
}

/** Promise 5: tray. */
public final class TrayTest {
    private static final Due due = new Due("TrayTest");

    public static void main(String[] args) {
        tellsWhatLiesOnEachTray();
        tellsMissedItemsToo();
        throwsWhereThereIsNoTray();
        due.end();
    }

    private static void tellsWhatLiesOnEachTray() {
        LoopSorter x = new LoopSorter(8, 2);
        x.induct(0, 2, 12);
        x.induct(2, 1, 2);
        due.answer("tray(7) while it waits", x.tray(7), 0);
        x.step(1);
        int[] loop = {0, 0, 0, 2, 0, 0, 1, 1};
        for (int k = 0; k < loop.length; k++) {
            due.answer("tray(" + k + ")", x.tray(k), loop[k]);
        }
        x.step(1);
        for (int k = 0; k < loop.length; k++) {
            due.answer("trays carry it along: tray(" + k + ")", x.tray(k), loop[k]);
        }
        x.step(20);
        for (int k = 0; k < loop.length; k++) {
            due.answer("all went out: tray(" + k + ")", x.tray(k), 0);
        }
    }

    private static void tellsMissedItemsToo() {
        LoopSorter x = new LoopSorter(8, 2);
        x.induct(0, 2, 12);
        x.step(1);
        x.missed(1);
        due.answer("tray(7)", x.tray(7), 1);
        due.answer("tray(6)", x.tray(6), 1);
        x.step(100);
        due.answer("tray(7)", x.tray(7), 1);
        due.answer("tray(6)", x.tray(6), 1);
    }

    private static void throwsWhereThereIsNoTray() {
        int[] sizes = {1, 8, 200};
        for (int size : sizes) {
            LoopSorter x = new LoopSorter(size, 2);
            int[] noTrays = {Integer.MIN_VALUE, -1, size, size + 1, Integer.MAX_VALUE};
            for (int k : noTrays) {
                due.noSuchTray("tray(" + k + ") of " + size, () -> x.tray(k));
            }
            due.answer("tray(0) of " + size, x.tray(0), 0);
            due.answer("tray(size - 1) of " + size, x.tray(size - 1), 0);
        }
    }
}

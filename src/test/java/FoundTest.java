/** Promise 8: found. */
public final class FoundTest {
    private static final Due due = new Due("FoundTest");

    public static void main(String[] args) {
        aFoundItemGoesOnAsBefore();
        onlyTheOwnTrayCounts();
        refusalsComeBeforeTheTray();
        throwsWhereThereIsNoTray();
        due.end();
    }

    private static void aFoundItemGoesOnAsBefore() {
        LoopSorter x = new LoopSorter(16, 1);
        x.induct(0, 1, 3);
        x.step(1);
        x.missed(1);
        due.answer("step(10)", x.step(10), 0);
        due.answer("found(1, 15)", x.found(1, 15), 1);
        due.answer("found already: found(1, 15)", x.found(1, 15), LoopSorter.STATE);
        due.answer("step(8)", x.step(8), 0);
        due.answer("step(1)", x.step(1), 1);
        due.answer("out(0, 1)", x.out(0, 1), 3);
        due.answer("out(0, 2)", x.out(0, 2), 19);
        due.answer("out(0, 3)", x.out(0, 3), 0);
    }

    private static void onlyTheOwnTrayCounts() {
        LoopSorter x = new LoopSorter(16, 1);
        x.induct(0, 2, 3);
        x.induct(1, 1, 3);
        x.step(1);
        x.missed(1);
        due.answer("the other one of a long item: found(1, 14)", x.found(1, 14), 0);
        due.answer("another item's: found(1, 3)", x.found(1, 3), 0);
        due.answer("a free one: found(1, 0)", x.found(1, 0), 0);
        due.answer("still missed", x.missed(1), LoopSorter.STATE);
        due.answer("step(16)", x.step(16), 1);
        due.answer("found(1, 15)", x.found(1, 15), 1);
        due.answer("step(16)", x.step(16), 1);
    }

    private static void refusalsComeBeforeTheTray() {
        LoopSorter x = new LoopSorter(16, 1);
        due.answer("found(1, 0) when there is none", x.found(1, 0), LoopSorter.UNKNOWN);
        x.induct(0, 1, 3);
        x.induct(0, 1, 9);
        int[] noItems = {Integer.MIN_VALUE, -1, 0, 3, 400, 401, Integer.MAX_VALUE};
        for (int item : noItems) {
            due.answer("found(" + item + ", 0)", x.found(item, 0), LoopSorter.UNKNOWN);
            due.answer("found(" + item + ", -1)", x.found(item, -1), LoopSorter.UNKNOWN);
            due.answer("found(" + item + ", 16)", x.found(item, 16), LoopSorter.UNKNOWN);
        }
        due.answer("it waits: found(1, 0)", x.found(1, 0), LoopSorter.STATE);
        due.answer("it waits: found(1, 16)", x.found(1, 16), LoopSorter.STATE);
        x.step(4);
        due.answer("it went out: found(1, 15)", x.found(1, 15), LoopSorter.STATE);
        due.answer("it went out: found(1, -1)", x.found(1, -1), LoopSorter.STATE);
        due.answer("not missed: found(2, 14)", x.found(2, 14), LoopSorter.STATE);
        due.answer("not missed: found(2, 99)", x.found(2, 99), LoopSorter.STATE);
    }

    private static void throwsWhereThereIsNoTray() {
        LoopSorter x = new LoopSorter(16, 1);
        x.induct(0, 1, 3);
        x.step(1);
        x.missed(1);
        int[] noTrays = {Integer.MIN_VALUE, -1, 16, 17, 200, Integer.MAX_VALUE};
        for (int tray : noTrays) {
            due.noSuchTray("found(1, " + tray + ")", () -> x.found(1, tray));
        }
        due.answer("still missed", x.missed(1), LoopSorter.STATE);
        due.answer("found(1, 15)", x.found(1, 15), 1);
    }
}

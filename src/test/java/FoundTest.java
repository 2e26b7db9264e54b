/** Promise 8: found. */
public final class FoundTest {
    private static final Due due = new Due("FoundTest");

    public static void main(String[] args) {
        aFoundItemGoesOnAsBefore();
        isFoundFromTheNextMoveOn();
        onlyItsOwnTrayCounts();
        theOtherTrayOfALongItemDoesNotCount();
        notFoundIsStillMissed();
        noSuchItems();
        isRefusedWhenItIsNotMissed();
        throwsWhereThereIsNoTray();
        refusalsComeBeforeTheThrow();
        due.end();
    }

    /** "1, and it is missed no more". */
    private static void aFoundItemGoesOnAsBefore() {
        LoopSorter x = new LoopSorter(16, 1);
        x.induct(0, 1, 3);
        x.step(1);
        x.missed(1);
        due.answer("step(10)", x.step(10), 0);
        due.answer("found(1, 15)", x.found(1, 15), 1);
        due.answer("found already: found(1, 15)", x.found(1, 15), LoopSorter.STATE);
        due.answer("step(8)", x.step(8), 0);
        due.answer("step(1)", x.step(1), 1);
        due.answer("out(0, 1)", x.out(0, 1), 3);
        due.answer("out(0, 2)", x.out(0, 2), 19);
        due.answer("out(0, 3)", x.out(0, 3), 0);
    }

    /** Found one move before its chute, right there and one behind it. */
    private static void isFoundFromTheNextMoveOn() {
        for (int position = 6; position <= 8; position++) {
            LoopSorter x = new LoopSorter(16, 1);
            x.induct(0, 1, 7);
            x.step(1);
            x.missed(1);
            x.step(position);
            due.answer("at " + position + ": found(1, 15)", x.found(1, 15), 1);
            due.answer("at " + position + ": step(1)", x.step(1), position == 6 ? 1 : 0);
            due.answer("at " + position + ": step(16)", x.step(16), position == 6 ? 0 : 1);
            due.answer("it had passed nothing: out(0, 3)", x.out(0, 3), 0);
        }
    }

    /** "if that is its own .. 0 if not": the trays on either side, others' and free ones. */
    private static void onlyItsOwnTrayCounts() {
        int[] owns = {0, 1, 7, 14, 15};
        for (int own : owns) {
            for (int tray = 0; tray < 16; tray++) {
                LoopSorter x = new LoopSorter(16, 1);
                x.step(15 - own);
                x.induct(0, 1, 15);
                x.induct(1, 1, 15);
                x.step(1);
                x.missed(1);
                due.answer("on " + own + ": found(1, " + tray + ")", x.found(1, tray), tray == own ? 1 : 0);
            }
        }
        LoopSorter one = new LoopSorter(1, 1);
        one.induct(0, 1, 3);
        one.step(1);
        one.missed(1);
        due.answer("of 1: found(1, 0)", one.found(1, 0), 1);
    }

    /** "(not the other one of a long item)". */
    private static void theOtherTrayOfALongItemDoesNotCount() {
        int[] sizes = {2, 3, 16, 200};
        for (int size : sizes) {
            int[] owns = {0, 1, size - 1};
            for (int own : owns) {
                LoopSorter x = new LoopSorter(size, 1);
                x.step(size - 1 - own);
                x.induct(0, 2, 15);
                x.step(1);
                due.answer("of " + size + ": missed(1)", x.missed(1), own);
                int other = own == 0 ? size - 1 : own - 1;
                due.answer("of " + size + ", the other: found(1, " + other + ")", x.found(1, other), 0);
                due.answer("still missed: missed(1)", x.missed(1), LoopSorter.STATE);
                due.answer("of " + size + ", its own: found(1, " + own + ")", x.found(1, own), 1);
            }
        }
    }

    private static void notFoundIsStillMissed() {
        LoopSorter x = new LoopSorter(16, 1);
        x.induct(0, 2, 3);
        x.induct(1, 1, 3);
        x.step(1);
        x.missed(1);
        due.answer("the other one of a long item: found(1, 14)", x.found(1, 14), 0);
        due.answer("another item's: found(1, 3)", x.found(1, 3), 0);
        due.answer("a free one: found(1, 0)", x.found(1, 0), 0);
        due.answer("still missed", x.missed(1), LoopSorter.STATE);
        due.answer("only the other goes out: step(16)", x.step(16), 1);
        due.answer("found(1, 15)", x.found(1, 15), 1);
        due.answer("step(16)", x.step(16), 1);
    }

    /** UNKNOWN: 0, 1 and the last item, the number behind it. */
    private static void noSuchItems() {
        LoopSorter x = new LoopSorter(16, 1);
        due.answer("found(1, 0) when there is none", x.found(1, 0), LoopSorter.UNKNOWN);
        for (int count = 1; count <= 8; count++) {
            x.induct(0, 1, 15);
            int[] noItems = {Integer.MIN_VALUE, -2, -1, 0, count + 1, count + 2, 400, 401, Integer.MAX_VALUE};
            for (int item : noItems) {
                due.answer("of " + count + ": found(" + item + ", 0)", x.found(item, 0), LoopSorter.UNKNOWN);
            }
            due.answer("of " + count + ": found(1, 0)", x.found(1, 0), LoopSorter.STATE);
            due.answer("of " + count + ": found(" + count + ", 0)", x.found(count, 0), LoopSorter.STATE);
        }
    }

    /** STATE: it waits, it is on the loop and not missed, it was found, it went out. */
    private static void isRefusedWhenItIsNotMissed() {
        LoopSorter x = new LoopSorter(16, 1);
        x.induct(0, 1, 9);
        due.answer("it waits: found(1, 15)", x.found(1, 15), LoopSorter.STATE);
        due.answer("it waits: found(1, 0)", x.found(1, 0), LoopSorter.STATE);
        x.step(1);
        due.answer("not missed: found(1, 15)", x.found(1, 15), LoopSorter.STATE);
        due.answer("not missed: found(1, 14)", x.found(1, 14), LoopSorter.STATE);
        x.missed(1);
        due.answer("missed: found(1, 15)", x.found(1, 15), 1);
        due.answer("found already: found(1, 15)", x.found(1, 15), LoopSorter.STATE);
        due.answer("step(9)", x.step(9), 1);
        due.answer("it went out: found(1, 15)", x.found(1, 15), LoopSorter.STATE);
    }

    /** "when there is no such tray": -1, 0 and T - 1, T. */
    private static void throwsWhereThereIsNoTray() {
        int[] sizes = {1, 2, 16, 199, 200};
        for (int size : sizes) {
            LoopSorter x = new LoopSorter(size, 1);
            x.induct(0, 1, 3);
            x.step(1);
            x.missed(1);
            int[] noTrays = {Integer.MIN_VALUE, -2, -1, size, size + 1, Integer.MAX_VALUE};
            for (int tray : noTrays) {
                due.noSuchTray("of " + size + ": found(1, " + tray + ")", () -> x.found(1, tray));
            }
            due.answer("still missed: missed(1)", x.missed(1), LoopSorter.STATE);
            due.answer("of " + size + ": found(1, 0)", x.found(1, 0), size == 1 ? 1 : 0);
            due.answer("found(1, T - 1)", x.found(1, size - 1), size == 1 ? LoopSorter.STATE : 1);
        }
    }

    /** "(and the call is not refused)". */
    private static void refusalsComeBeforeTheThrow() {
        int[] noTrays = {Integer.MIN_VALUE, -1, 16, 17, Integer.MAX_VALUE};
        for (int tray : noTrays) {
            LoopSorter x = new LoopSorter(16, 1);
            due.answer("no item: found(1, " + tray + ")", x.found(1, tray), LoopSorter.UNKNOWN);
            x.induct(0, 1, 9);
            due.answer("no item: found(0, " + tray + ")", x.found(0, tray), LoopSorter.UNKNOWN);
            due.answer("no item: found(2, " + tray + ")", x.found(2, tray), LoopSorter.UNKNOWN);
            due.answer("it waits: found(1, " + tray + ")", x.found(1, tray), LoopSorter.STATE);
            x.step(1);
            due.answer("not missed: found(1, " + tray + ")", x.found(1, tray), LoopSorter.STATE);
            x.missed(1);
            due.noSuchTray("missed: found(1, " + tray + ")", () -> x.found(1, tray));
            due.answer("missed: found(2, " + tray + ")", x.found(2, tray), LoopSorter.UNKNOWN);
            x.found(1, 15);
            x.step(9);
            due.answer("it went out: found(1, " + tray + ")", x.found(1, tray), LoopSorter.STATE);
        }
    }
}

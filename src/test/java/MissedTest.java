/** Promise 7: missed, and what the terms say of MISSED items. */
public final class MissedTest {
    private static final Due due = new Due("MissedTest");

    public static void main(String[] args) {
        tellsItsOwnTray();
        goesOutNowhere();
        goesNotIntoTheOverflowEither();
        passesNothing();
        isMissedFromTheNextMoveOn();
        othersGoOn();
        itsTraysAreNotFree();
        isRefusedWhenItWaits();
        isRefusedWhenItWentOut();
        isRefusedWhenItIsMissedAlready();
        noSuchItems();
        due.end();
    }

    /** "its own tray": of short and of long ones, at both ends of the row of trays. */
    private static void tellsItsOwnTray() {
        int[] owns = {0, 1, 14, 15};
        for (int own : owns) {
            for (int length = 1; length <= 2; length++) {
                LoopSorter x = new LoopSorter(16, 1);
                x.step(15 - own);
                x.induct(0, length, 15);
                x.step(1);
                due.answer("length " + length + ", tray " + own + ": missed(1)", x.missed(1), own);
            }
        }
    }

    /** "it goes round, goes out nowhere .. until it is FOUND". */
    private static void goesOutNowhere() {
        for (int c = 0; c < 16; c++) {
            LoopSorter x = new LoopSorter(16, 1);
            x.induct(0, 1, c);
            x.step(1);
            due.answer("missed(1)", x.missed(1), 15);
            due.answer("to " + c + ": step(1000)", x.step(1000), 0);
            due.answer("it goes round: tray(15)", x.tray(15), 1);
            due.answer("full(" + c + ", false)", x.full(c, false), 0);
            due.answer("found(1, 15)", x.found(1, 15), 1);
            due.answer("to " + c + ": step(16)", x.step(16), 1);
        }
    }

    private static void goesNotIntoTheOverflowEither() {
        LoopSorter x = new LoopSorter(16, 1);
        x.full(3, true);
        x.induct(1, 2, 3);
        x.step(16);
        due.answer("overstayed: round(1)", x.round(1), 1);
        due.answer("missed(1)", x.missed(1), 3);
        due.answer("step(100)", x.step(100), 0);
        due.answer("found(1, 3)", x.found(1, 3), 1);
        due.answer("step(16)", x.step(16), 1);
        due.answer("out(0, 1)", x.out(0, 1), 15);
    }

    /** "passes nothing until it is FOUND". */
    private static void passesNothing() {
        LoopSorter x = new LoopSorter(16, 5);
        x.full(3, true);
        x.induct(0, 1, 3);
        x.step(4);
        due.answer("round(1)", x.round(1), 1);
        due.answer("missed(1)", x.missed(1), 15);
        x.step(160);
        due.answer("missed: round(1)", x.round(1), 1);
        due.answer("found(1, 15)", x.found(1, 15), 1);
        x.step(15);
        due.answer("found, but not there yet: round(1)", x.round(1), 1);
        x.step(1);
        due.answer("found: round(1)", x.round(1), 2);
    }

    /** Missed one move before its chute, right there and one behind it. */
    private static void isMissedFromTheNextMoveOn() {
        for (int position = 6; position <= 8; position++) {
            LoopSorter x = new LoopSorter(16, 5);
            x.full(7, true);
            x.induct(0, 1, 7);
            x.step(1 + position);
            x.missed(1);
            due.answer("missed at " + position + ": round(1)", x.round(1), position < 7 ? 0 : 1);
            x.step(3);
            due.answer("missed at " + position + ": round(1)", x.round(1), position < 7 ? 0 : 1);
        }
    }

    private static void othersGoOn() {
        LoopSorter x = new LoopSorter(16, 1);
        x.induct(0, 1, 7);
        x.induct(0, 1, 7);
        x.induct(0, 1, 7);
        x.step(3);
        due.answer("missed(2)", x.missed(2), 14);
        due.answer("step(100)", x.step(100), 2);
        due.answer("out(0, 0)", x.out(0, 0), 1);
        due.answer("out(1, 0)", x.out(1, 0), 3);
        due.answer("tray(14)", x.tray(14), 2);
    }

    /** "(its trays are not free by that)". */
    private static void itsTraysAreNotFree() {
        LoopSorter x = new LoopSorter(2, 1);
        x.induct(0, 2, 3);
        x.step(1);
        due.answer("missed(1)", x.missed(1), 1);
        x.induct(0, 1, 3);
        x.induct(2, 1, 3);
        due.answer("step(50)", x.step(50), 0);
        due.answer("share(0)", x.share(0), 1);
        due.answer("share(2)", x.share(2), 0);
        due.answer("tray(0)", x.tray(0), 1);
        due.answer("tray(1)", x.tray(1), 1);
    }

    /** "STATE (also when it waits": before its step, and behind it. */
    private static void isRefusedWhenItWaits() {
        LoopSorter x = new LoopSorter(16, 1);
        x.induct(0, 1, 3);
        x.induct(0, 1, 3);
        due.answer("it waits: missed(1)", x.missed(1), LoopSorter.STATE);
        due.answer("no step: step(0)", x.step(0), 0);
        due.answer("it waits: missed(1)", x.missed(1), LoopSorter.STATE);
        x.step(1);
        due.answer("put on: missed(1)", x.missed(1), 15);
        due.answer("the next waits: missed(2)", x.missed(2), LoopSorter.STATE);
        x.step(1);
        due.answer("put on: missed(2)", x.missed(2), 14);
    }

    /** "went out": in the step before, and in that step. */
    private static void isRefusedWhenItWentOut() {
        LoopSorter x = new LoopSorter(16, 1);
        x.induct(0, 1, 3);
        x.step(3);
        due.answer("right before its chute: missed(1)", x.missed(1), 15);
        due.answer("found(1, 15)", x.found(1, 15), 1);
        due.answer("step(1)", x.step(1), 1);
        due.answer("it went out: missed(1)", x.missed(1), LoopSorter.STATE);
        x.step(100);
        due.answer("it went out: missed(1)", x.missed(1), LoopSorter.STATE);
    }

    /** "or is missed already)": and may be missed again when it was found. */
    private static void isRefusedWhenItIsMissedAlready() {
        LoopSorter x = new LoopSorter(16, 1);
        x.induct(0, 1, 9);
        x.step(1);
        for (int i = 0; i < 3; i++) {
            due.answer("missed(1)", x.missed(1), 15);
            due.answer("missed already: missed(1)", x.missed(1), LoopSorter.STATE);
            due.answer("not found: found(1, 14)", x.found(1, 14), 0);
            due.answer("missed already: missed(1)", x.missed(1), LoopSorter.STATE);
            due.answer("found(1, 15)", x.found(1, 15), 1);
        }
        due.answer("step(9)", x.step(9), 1);
    }

    /** UNKNOWN: 0, 1 and the last item, the number behind it. */
    private static void noSuchItems() {
        LoopSorter x = new LoopSorter(16, 1);
        due.answer("missed(1) when there is none", x.missed(1), LoopSorter.UNKNOWN);
        for (int count = 1; count <= 8; count++) {
            x.induct(0, 1, 15);
            int[] noItems = {Integer.MIN_VALUE, -2, -1, 0, count + 1, count + 2, 400, 401, Integer.MAX_VALUE};
            for (int item : noItems) {
                due.answer("of " + count + ": missed(" + item + ")", x.missed(item), LoopSorter.UNKNOWN);
            }
            due.answer("of " + count + ": missed(1)", x.missed(1), LoopSorter.STATE);
            due.answer("of " + count + ": missed(" + count + ")", x.missed(count), LoopSorter.STATE);
        }
        x.step(8);
        due.answer("missed(8)", x.missed(8), 8);
        due.answer("missed(9)", x.missed(9), LoopSorter.UNKNOWN);
    }
}

import java.util.ArrayList;
import java.util.List;
import java.util.function.ToLongFunction;

/** Refusals: of several the first one of UNKNOWN, OUTSIDE, STATE, ROOM; refused calls change nothing. */
public final class RefusalTest {
    private static final Due due = new Due("RefusalTest");
    private static final long THREW = Long.MIN_VALUE;

    public static void main(String[] args) {
        inductRefusesInOrder();
        outRefusesInOrder();
        foundRefusesInOrder();
        refusedCallsChangeNothing();
        throwingCallsChangeNothing();
        callsThatDidNothingChangeNothing();
        due.end();
    }

    /** So many items went out (a multiple of 16), and 32 more wait, eight at each induct. */
    private static LoopSorter fullRows(int gone) {
        LoopSorter x = new LoopSorter(200, 1);
        for (int n = 1; n <= gone; n++) {
            x.induct(n % 4, 1, 15);
            if (n % 16 == 0) {
                x.step(500);
            }
        }
        for (int n = 0; n < 32; n++) {
            due.answer("it waits", x.induct(n % 4, 1, 15), gone + n + 1);
        }
        return x;
    }

    /** "of several the first one here: UNKNOWN .., OUTSIDE .., STATE .., ROOM", and 0 behind all of them. */
    private static void inductRefusesInOrder() {
        LoopSorter x = fullRows(368);
        due.answer("all three: induct(4, 3, 16)", x.induct(4, 3, 16), LoopSorter.UNKNOWN);
        due.answer("induct(4, 3, 0)", x.induct(4, 3, 0), LoopSorter.UNKNOWN);
        due.answer("induct(0, 3, 16)", x.induct(0, 3, 16), LoopSorter.UNKNOWN);
        due.answer("induct(-1, 1, 0)", x.induct(-1, 1, 0), LoopSorter.UNKNOWN);
        due.answer("induct(0, 1, -1)", x.induct(0, 1, -1), LoopSorter.UNKNOWN);
        due.answer("induct(0, 3, 0)", x.induct(0, 3, 0), LoopSorter.OUTSIDE);
        due.answer("induct(3, 0, 15)", x.induct(3, 0, 15), LoopSorter.OUTSIDE);
        due.answer("induct(0, 1, 0)", x.induct(0, 1, 0), LoopSorter.ROOM);
        due.answer("induct(3, 2, 15)", x.induct(3, 2, 15), LoopSorter.ROOM);
        due.answer("the rows are as they were: step(1000)", x.step(1000), 32);
        due.answer("and empty: step(1000)", x.step(1000), 0);
        LoopSorter y = fullRows(0);
        due.answer("8 wait: induct(4, 3, 0)", y.induct(4, 3, 0), LoopSorter.UNKNOWN);
        due.answer("8 wait: induct(0, 0, 16)", y.induct(0, 0, 16), LoopSorter.UNKNOWN);
        due.answer("8 wait: induct(0, 1, 16)", y.induct(0, 1, 16), LoopSorter.UNKNOWN);
        due.answer("8 wait: induct(0, 0, 0)", y.induct(0, 0, 0), LoopSorter.OUTSIDE);
        due.answer("8 wait: induct(3, 3, 0)", y.induct(3, 3, 0), LoopSorter.OUTSIDE);
        due.answer("8 wait: induct(3, 1, 0)", y.induct(3, 1, 0), 0);
        due.answer("the rows are as they were: step(1000)", y.step(1000), 32);
    }

    private static void outRefusesInOrder() {
        LoopSorter x = busyLoop();
        due.answer("out(-1, -1)", x.out(-1, -1), LoopSorter.UNKNOWN);
        due.answer("out(1, 4)", x.out(1, 4), LoopSorter.UNKNOWN);
        due.answer("out(0, 4)", x.out(0, 4), LoopSorter.OUTSIDE);
        due.answer("out(0, -1)", x.out(0, -1), LoopSorter.OUTSIDE);
        due.answer("out(0, 3)", x.out(0, 3), 0);
    }

    private static void foundRefusesInOrder() {
        LoopSorter x = busyLoop();
        due.answer("no item, no tray: found(13, 32)", x.found(13, 32), LoopSorter.UNKNOWN);
        due.answer("it waits, no tray: found(12, 32)", x.found(12, 32), LoopSorter.STATE);
        due.answer("it went out, no tray: found(1, -1)", x.found(1, -1), LoopSorter.STATE);
        due.answer("not missed, no tray: found(2, 32)", x.found(2, 32), LoopSorter.STATE);
        due.noSuchTray("missed, no tray: found(3, 32)", () -> x.found(3, 32));
        due.answer("missed, another tray: found(3, 31)", x.found(3, 31), 0);
    }

    /** Item 1 went out, 2 is carried, 3 is carried, long and missed, 4 is overstayed, 5 to 12 wait. */
    private static LoopSorter busyLoop() {
        LoopSorter x = new LoopSorter(32, 1);
        x.full(2, true);
        x.induct(0, 1, 1);
        x.induct(1, 1, 15);
        x.induct(2, 2, 14);
        x.induct(0, 1, 2);
        x.step(4);
        x.missed(3);
        x.step(4);
        for (int i = 0; i < 8; i++) {
            x.induct(3, 1 + i % 2, 5);
        }
        x.speed(2);
        return x;
    }

    private static void unchanged(String call, long want, ToLongFunction<LoopSorter> caller) {
        LoopSorter x = busyLoop();
        long got = answerOf(caller, x);
        due.answer(call, got, want);
        List<Long> seen = allThatCanBeSeen(x);
        List<Long> twin = allThatCanBeSeen(busyLoop());
        for (int i = 0; i < twin.size(); i++) {
            due.answer("behind " + call + ", look " + i, seen.get(i), twin.get(i));
        }
    }

    private static long answerOf(ToLongFunction<LoopSorter> caller, LoopSorter x) {
        try {
            return caller.applyAsLong(x);
        } catch (ArrayIndexOutOfBoundsException e) {
            return THREW;
        }
    }

    /** Looks at all that has an answer, and at what comes of it when the loop goes on. */
    private static List<Long> allThatCanBeSeen(LoopSorter x) {
        List<Long> seen = new ArrayList<>();
        lookAround(x, seen);
        for (int i = 0; i < 12; i++) {
            seen.add((long) x.step(1));
        }
        lookAround(x, seen);
        seen.add((long) x.found(3, 15));
        seen.add((long) x.induct(0, 1, 2));
        seen.add((long) x.step(100));
        lookAround(x, seen);
        for (int c = 0; c < 16; c++) {
            seen.add((long) x.full(c, false));
        }
        seen.add((long) x.speed(1));
        return seen;
    }

    private static void lookAround(LoopSorter x, List<Long> seen) {
        for (int k = 0; k < 32; k++) {
            seen.add((long) x.tray(k));
        }
        for (int n = 1; n <= 14; n++) {
            seen.add((long) x.round(n));
        }
        for (int i = 0; i < 4; i++) {
            seen.add(x.share(i));
        }
        for (int i = 0; i < 14; i++) {
            for (int what = 0; what < 4; what++) {
                seen.add((long) x.out(i, what));
            }
        }
    }

    /** "A call that is refused .. changes nothing." */
    private static void refusedCallsChangeNothing() {
        long unknown = LoopSorter.UNKNOWN;
        long outside = LoopSorter.OUTSIDE;
        long state = LoopSorter.STATE;
        unchanged("induct(4, 3, 16)", unknown, x -> x.induct(4, 3, 16));
        unchanged("induct(-1, 1, 0)", unknown, x -> x.induct(-1, 1, 0));
        unchanged("induct(0, 0, 16)", unknown, x -> x.induct(0, 0, 16));
        unchanged("induct(0, 3, 0)", outside, x -> x.induct(0, 3, 0));
        unchanged("induct(3, 0, 0)", outside, x -> x.induct(3, 0, 0));
        unchanged("step(-1)", outside, x -> x.step(-1));
        unchanged("step(1001)", outside, x -> x.step(1001));
        unchanged("out(1, 7)", unknown, x -> x.out(1, 7));
        unchanged("out(0, 7)", outside, x -> x.out(0, 7));
        unchanged("full(16, true)", unknown, x -> x.full(16, true));
        unchanged("full(-1, false)", unknown, x -> x.full(-1, false));
        unchanged("full(15, true)", state, x -> x.full(15, true));
        unchanged("missed(0)", unknown, x -> x.missed(0));
        unchanged("missed(13)", unknown, x -> x.missed(13));
        unchanged("missed(1)", state, x -> x.missed(1));
        unchanged("missed(3)", state, x -> x.missed(3));
        unchanged("missed(12)", state, x -> x.missed(12));
        unchanged("found(13, 99)", unknown, x -> x.found(13, 99));
        unchanged("found(2, 99)", state, x -> x.found(2, 99));
        unchanged("found(1, 31)", state, x -> x.found(1, 31));
        unchanged("found(5, 0)", state, x -> x.found(5, 0));
        unchanged("speed(0)", outside, x -> x.speed(0));
        unchanged("speed(6)", outside, x -> x.speed(6));
        unchanged("share(4)", unknown, x -> x.share(4));
        unchanged("round(13)", unknown, x -> x.round(13));
    }

    /** "A call that .. throws, changes nothing." */
    private static void throwingCallsChangeNothing() {
        unchanged("tray(32)", THREW, x -> x.tray(32));
        unchanged("tray(-1)", THREW, x -> x.tray(-1));
        unchanged("found(3, 32)", THREW, x -> x.found(3, 32));
        unchanged("found(3, -1)", THREW, x -> x.found(3, -1));
    }

    private static void callsThatDidNothingChangeNothing() {
        unchanged("8 wait: induct(3, 1, 0)", 0, x -> x.induct(3, 1, 0));
        unchanged("another tray: found(3, 14)", 0, x -> x.found(3, 14));
        unchanged("no step: step(0)", 0, x -> x.step(0));
    }
}

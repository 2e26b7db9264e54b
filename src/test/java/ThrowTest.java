import java.util.function.ToLongFunction;

/**
 * LANGUAGE.md, rule 6: "A call of the face throws exactly what and where the document says, and nothing
 * else ever reaches its caller." Every call is made with every number of a wide choice, in several states.
 */
public final class ThrowTest {
    private static final Due due = new Due("ThrowTest");
    private static final int NOTHING = 0;
    private static final int NO_SUCH_TRAY = 1;
    private static final int ANOTHER = 2;
    private static final int[] NUMBERS = {
        Integer.MIN_VALUE, Integer.MIN_VALUE + 1, -201, -17, -1, 0, 1, 2, 3, 4, 5, 7, 8, 9, 14, 15, 16, 17,
        199, 200, 201, 399, 400, 401, 999, 1000, 1001, Integer.MAX_VALUE - 1, Integer.MAX_VALUE};
    private static final int[] FEW_NUMBERS = {Integer.MIN_VALUE, -1, 0, 1, 2, 3, 4, Integer.MAX_VALUE};
    private static final int[] SIZES = {1, 2, 15, 16, 199, 200};

    public static void main(String[] args) {
        constructorsThrowNothing();
        for (int size : SIZES) {
            for (int stage = 0; stage < 4; stage++) {
                callsOfOneNumber(size, stage);
                callsOfTwoNumbers(size, stage);
                callsOfThreeNumbers(size, stage);
                onlyMissedItemsMakeFoundThrow(size, stage);
            }
        }
        due.end();
    }

    private static int thrownBy(LoopSorter x, ToLongFunction<LoopSorter> caller) {
        try {
            caller.applyAsLong(x);
            return NOTHING;
        } catch (ArrayIndexOutOfBoundsException e) {
            return NO_SUCH_TRAY;
        } catch (Throwable e) {
            return ANOTHER;
        }
    }

    private static void throwsNothing(String call, LoopSorter x, ToLongFunction<LoopSorter> caller) {
        due.answer(call + " throws", thrownBy(x, caller), NOTHING);
    }

    private static void constructorsThrowNothing() {
        for (int trays : NUMBERS) {
            for (int rounds : NUMBERS) {
                int thrown = thrownBy(null, none -> new LoopSorter(trays, rounds).step(1000));
                due.answer("new LoopSorter(" + trays + ", " + rounds + ") throws", thrown, NOTHING);
            }
        }
    }

    /** Stage 0: new; 1: rows are full; 2: some are on the loop and item 1 is missed; 3: 400 were used. */
    private static LoopSorter made(int size, int stage) {
        LoopSorter x = new LoopSorter(size, 1);
        if (stage == 1 || stage == 2) {
            for (int i = 0; i < 32; i++) {
                x.induct(i % 4, i < 4 ? 1 : 1 + i / 4 % 2, i % 16);
            }
        }
        if (stage == 2) {
            x.step(1);
            x.missed(1);
            x.step(3);
        }
        for (int i = 0; stage == 3 && i < 400; i++) {
            x.induct(i % 4, 1, i % 16);
            if (i % 16 == 15) {
                x.step(1000);
            }
        }
        return x;
    }

    private static void callsOfOneNumber(int size, int stage) {
        for (int n : NUMBERS) {
            String made = "of " + size + ", stage " + stage + ", number " + n + ": ";
            throwsNothing(made + "step", made(size, stage), x -> x.step(n));
            throwsNothing(made + "missed", made(size, stage), x -> x.missed(n));
            throwsNothing(made + "speed", made(size, stage), x -> x.speed(n));
            throwsNothing(made + "share", made(size, stage), x -> x.share(n));
            throwsNothing(made + "round", made(size, stage), x -> x.round(n));
            throwsNothing(made + "full, true", made(size, stage), x -> x.full(n, true));
            throwsNothing(made + "full, false", made(size, stage), x -> x.full(n, false));
            int want = n < 0 || n >= size ? NO_SUCH_TRAY : NOTHING;
            due.answer(made + "tray throws", thrownBy(made(size, stage), x -> x.tray(n)), want);
        }
    }

    private static void callsOfTwoNumbers(int size, int stage) {
        for (int i : NUMBERS) {
            LoopSorter x = made(size, stage);
            for (int what : NUMBERS) {
                throwsNothing("stage " + stage + ": out(" + i + ", " + what + ")", x, y -> y.out(i, what));
            }
        }
    }

    private static void callsOfThreeNumbers(int size, int stage) {
        for (int induct : FEW_NUMBERS) {
            for (int length : FEW_NUMBERS) {
                LoopSorter x = made(size, stage);
                for (int chute : NUMBERS) {
                    String call = "stage " + stage + ": induct(" + induct + ", " + length + ", " + chute + ")";
                    throwsNothing(call, x, y -> y.induct(induct, length, chute));
                }
            }
        }
    }

    /** Promise 8: "when there is no such tray (and the call is not refused)". */
    private static void onlyMissedItemsMakeFoundThrow(int size, int stage) {
        for (int item : NUMBERS) {
            for (int tray : NUMBERS) {
                LoopSorter x = made(size, stage);
                boolean isMissed = stage == 2 && item == 1;
                int want = isMissed && (tray < 0 || tray >= size) ? NO_SUCH_TRAY : NOTHING;
                String call = "of " + size + ", stage " + stage + ": found(" + item + ", " + tray + ") throws";
                due.answer(call, thrownBy(x, y -> y.found(item, tray)), want);
            }
        }
    }
}

/** Promise 4: out. */
public final class OutTest {
    private static final Due due = new Due("OutTest");

    public static void main(String[] args) {
        tellsOfEachItemThatWentOut();
        tellsTheChuteWhereItWentOut();
        tellsTheTimeBeforeThatStep();
        tellsItsRounds();
        thereIsNoneSuch();
        whatIsNoneOfThese();
        itemsThatStayAreNotTold();
        due.end();
    }

    private static void row(LoopSorter x, int i, int number, int chute, int time, int rounds) {
        due.answer("out(" + i + ", 0)", x.out(i, 0), number);
        due.answer("out(" + i + ", 1)", x.out(i, 1), chute);
        due.answer("out(" + i + ", 2)", x.out(i, 2), time);
        due.answer("out(" + i + ", 3)", x.out(i, 3), rounds);
    }

    /** "Of the i-th item that went out (0 the first)". */
    private static void tellsOfEachItemThatWentOut() {
        LoopSorter x = new LoopSorter(16, 3);
        x.induct(0, 1, 9);
        x.induct(0, 2, 3);
        x.induct(2, 1, 15);
        due.answer("step(20)", x.step(20), 3);
        row(x, 0, 2, 3, 4, 0);
        row(x, 1, 3, 15, 7, 0);
        row(x, 2, 1, 9, 9, 0);
        x.induct(0, 1, 1);
        x.step(500);
        row(x, 0, 2, 3, 4, 0);
        row(x, 2, 1, 9, 9, 0);
        row(x, 3, 4, 1, 21, 0);
    }

    /** "1 the chute (where it went out)": not always the one that it is to. */
    private static void tellsTheChuteWhereItWentOut() {
        for (int c = 0; c < 16; c++) {
            LoopSorter x = new LoopSorter(16, 1);
            x.induct(1, 1, c);
            x.step(30);
            due.answer("to " + c + ": out(0, 1)", x.out(0, 1), c);
        }
        LoopSorter y = new LoopSorter(16, 2);
        y.full(6, true);
        y.induct(0, 1, 6);
        y.step(100);
        row(y, 0, 1, 15, 31, 2);
        y.full(6, false);
        y.full(15, false);
        row(y, 0, 1, 15, 31, 2);
    }

    /** "2 the time (before that step)": the earliest, and in each move of a fast step. */
    private static void tellsTheTimeBeforeThatStep() {
        LoopSorter x = new LoopSorter(1, 1);
        x.induct(0, 1, 0);
        x.induct(0, 1, 0);
        due.answer("put on at time 0: step(1)", x.step(1), 0);
        due.answer("step(1)", x.step(1), 1);
        due.answer("out(0, 2)", x.out(0, 2), 1);
        due.answer("step(1)", x.step(1), 1);
        due.answer("out(1, 2)", x.out(1, 2), 2);
        for (int c = 1; c <= 15; c++) {
            LoopSorter y = new LoopSorter(16, 1);
            y.speed(5);
            y.induct(0, 1, c);
            y.step(10);
            due.answer("at speed 5, to " + c + ": out(0, 2)", y.out(0, 2), c <= 5 ? 1 : c <= 10 ? 2 : 3);
        }
    }

    /** "3 its rounds": those before it found room. */
    private static void tellsItsRounds() {
        for (int rounds = 0; rounds <= 3; rounds++) {
            LoopSorter x = new LoopSorter(16, 20);
            x.full(6, true);
            x.induct(0, 1, 6);
            x.step(1 + 16 * rounds);
            x.full(6, false);
            due.answer("step(16)", x.step(16), 1);
            row(x, 0, 1, 6, 16 * rounds + 6, rounds);
        }
    }

    /** "UNKNOWN when there is none such": -1, 0 and the last, the one behind it. */
    private static void thereIsNoneSuch() {
        LoopSorter x = new LoopSorter(1, 2);
        for (int gone = 0; gone <= 12; gone++) {
            int[] noRows = {Integer.MIN_VALUE, -2, -1, gone, gone + 1, 399, 400, 401, Integer.MAX_VALUE};
            for (int i : noRows) {
                due.answer(gone + " went out: out(" + i + ", 0)", x.out(i, 0), LoopSorter.UNKNOWN);
            }
            due.answer(gone + " went out: out(" + gone + ", 3)", x.out(gone, 3), LoopSorter.UNKNOWN);
            for (int i = 0; i < gone; i++) {
                due.answer(gone + " went out: out(" + i + ", 0)", x.out(i, 0), i + 1);
            }
            x.induct(0, 1, 15);
            x.step(2);
        }
    }

    /** "OUTSIDE when what is none of these": -1, 0 and 3, 4. */
    private static void whatIsNoneOfThese() {
        LoopSorter x = new LoopSorter(16, 2);
        x.induct(0, 1, 1);
        x.step(2);
        row(x, 0, 1, 1, 1, 0);
        int[] noWhats = {Integer.MIN_VALUE, -2, -1, 4, 5, Integer.MAX_VALUE};
        for (int what : noWhats) {
            due.answer("out(0, " + what + ")", x.out(0, what), LoopSorter.OUTSIDE);
            due.answer("first UNKNOWN: out(1, " + what + ")", x.out(1, what), LoopSorter.UNKNOWN);
            due.answer("first UNKNOWN: out(-1, " + what + ")", x.out(-1, what), LoopSorter.UNKNOWN);
        }
    }

    private static void itemsThatStayAreNotTold() {
        LoopSorter x = new LoopSorter(16, 2);
        x.induct(0, 1, 8);
        due.answer("it waits: out(0, 0)", x.out(0, 0), LoopSorter.UNKNOWN);
        x.step(8);
        due.answer("it is on the loop: out(0, 0)", x.out(0, 0), LoopSorter.UNKNOWN);
        x.missed(1);
        x.step(1);
        due.answer("it is missed: out(0, 0)", x.out(0, 0), LoopSorter.UNKNOWN);
    }
}

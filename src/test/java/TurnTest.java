/** Terms: the turns that the inducts take in each step. */
public final class TurnTest {
    private static final Due due = new Due("TurnTest");

    public static void main(String[] args) {
        theLeastShareComesFirst();
        allFourComeInTheOrderOfTheirShares();
        sharesChangeFromStepToStep();
        theFirstInTurnMayTakeANeighboursTray();
        eachPutsOneOnInAStep();
        whoCanPutNothingOnHoldsNobodyUp();
        noneOfTheRowOvertakesTheFirst();
        due.end();
    }

    /** Has an induct of a loop of one tray put so many items on, which are then gone. */
    private static void giveShare(LoopSorter x, int induct, int share) {
        for (int i = 0; i < share; i++) {
            x.induct(induct, 1, 15);
            x.step(2);
        }
        due.answer("share(" + induct + ")", x.share(induct), share);
    }

    /** "the one whose share is least (of these the least number)": of two, one less, equal, one more. */
    private static void theLeastShareComesFirst() {
        int[][] shares = {{0, 0}, {0, 1}, {1, 0}, {1, 1}, {1, 2}, {2, 1}, {8, 9}, {9, 9}, {9, 8}, {0, 9}, {9, 0}};
        for (int[] pair : shares) {
            for (int low = 0; low < 4; low++) {
                for (int high = low + 1; high < 4; high++) {
                    ofTwoComesFirst(low, pair[0], high, pair[1]);
                }
            }
        }
    }

    private static void ofTwoComesFirst(int low, int shareOfLow, int high, int shareOfHigh) {
        LoopSorter x = new LoopSorter(1, 1);
        giveShare(x, low, shareOfLow);
        giveShare(x, high, shareOfHigh);
        int itemOfHigh = x.induct(high, 1, 15);
        int itemOfLow = x.induct(low, 1, 15);
        x.step(1);
        String call = "inducts " + low + " and " + high + ", shares " + shareOfLow + " and " + shareOfHigh + ": tray(0)";
        due.answer(call, x.tray(0), shareOfLow <= shareOfHigh ? itemOfLow : itemOfHigh);
    }

    private static void allFourComeInTheOrderOfTheirShares() {
        for (int code = 0; code < 81; code++) {
            int[] shares = {code % 3, code / 3 % 3, code / 9 % 3, code / 27};
            LoopSorter x = new LoopSorter(1, 1);
            int gone = 0;
            for (int i = 0; i < 4; i++) {
                giveShare(x, i, shares[i]);
                gone += shares[i];
            }
            // the item of induct 3 has the least number, so that the items' order tells nothing
            for (int i = 3; i >= 0; i--) {
                x.induct(i, 1, 15);
            }
            due.answer("step(5)", x.step(5), 4);
            int place = gone;
            for (int share = 0; share < 3; share++) {
                for (int i = 0; i < 4; i++) {
                    if (shares[i] == share) {
                        due.answer("shares of code " + code + ": out(" + place + ", 0)", x.out(place, 0), gone + 4 - i);
                        place++;
                    }
                }
            }
        }
    }

    private static void sharesChangeFromStepToStep() {
        LoopSorter x = new LoopSorter(1, 1);
        giveShare(x, 0, 2);
        int[] rows = {0, 0, 0, 1, 1, 1, 1};
        for (int row : rows) {
            x.induct(row, 1, 15);
        }
        due.answer("step(8)", x.step(8), 7);
        // shares 2 0, 2 1, 2 2, 3 2, 3 3, 4 3, 4 4
        int[] order = {6, 7, 3, 8, 4, 9, 5};
        for (int i = 0; i < order.length; i++) {
            due.answer("out(" + (2 + i) + ", 0)", x.out(2 + i, 0), order[i]);
        }
    }

    private static void theFirstInTurnMayTakeANeighboursTray() {
        // of 4 trays the inducts stand at 0, 1, 2, 3: a long item of induct 1 lies at induct 0, too
        for (int more = 0; more <= 1; more++) {
            LoopSorter x = new LoopSorter(4, 1);
            for (int i = 0; i < more; i++) {
                x.induct(0, 1, 15);
                x.step(5);
            }
            x.induct(0, 1, 15);
            x.induct(1, 2, 15);
            x.step(1);
            due.answer(more + " more for induct 0: share(0)", x.share(0), 1);
            due.answer(more + " more for induct 0: share(1)", x.share(1), more);
        }
    }

    /** "puts its first waiting item on". */
    private static void eachPutsOneOnInAStep() {
        LoopSorter x = new LoopSorter(200, 1);
        for (int i = 0; i < 32; i++) {
            x.induct(i % 4, 1, 15);
        }
        for (int step = 1; step <= 8; step++) {
            x.step(1);
            for (int i = 0; i < 4; i++) {
                due.answer("behind step " + step + ": share(" + i + ")", x.share(i), step);
            }
        }
        x.step(1);
        due.answer("the rows are empty: share(0)", x.share(0), 8);
        due.answer("the rows are empty: share(3)", x.share(3), 8);
    }

    /** "if it can (if not, ..; its turn is over all the same)". */
    private static void whoCanPutNothingOnHoldsNobodyUp() {
        for (int held = 0; held < 4; held++) {
            LoopSorter x = new LoopSorter(1, 1);
            // a long item fits on no loop of one tray, so that this induct's share stays least
            x.induct(held, 2, 15);
            for (int other = 0; other < 4; other++) {
                if (other != held) {
                    x.induct(other, 1, 15);
                    x.induct(other, 1, 15);
                }
            }
            for (int step = 1; step <= 6; step++) {
                due.answer("held " + held + ", step " + step, x.step(1), step == 1 ? 0 : 1);
            }
            for (int other = 0; other < 4; other++) {
                due.answer("held " + held + ": share(" + other + ")", x.share(other), other == held ? 0 : 2);
            }
        }
    }

    /** "(if not, none of its row ..)". */
    private static void noneOfTheRowOvertakesTheFirst() {
        LoopSorter x = new LoopSorter(6, 1);
        // inducts at 0, 1, 3, 4: induct 0's short item lies on the tray behind that of induct 1
        x.induct(1, 2, 15);
        x.induct(1, 1, 15);
        x.induct(0, 1, 15);
        x.step(1);
        due.answer("share(0)", x.share(0), 1);
        due.answer("share(1)", x.share(1), 0);
        due.answer("where the second could lie: tray(0)", x.tray(0), 0);
        x.step(1);
        due.answer("taken, the tray itself: share(1)", x.share(1), 0);
        x.step(1);
        due.answer("the first goes first: share(1)", x.share(1), 1);
        due.answer("its own tray: tray(4)", x.tray(4), 1);
        due.answer("tray(3)", x.tray(3), 1);
        x.step(1);
        due.answer("its other tray is there: share(1)", x.share(1), 1);
        x.step(1);
        due.answer("then the second: share(1)", x.share(1), 2);
        due.answer("tray(2)", x.tray(2), 2);
    }
}

/** Terms: what each chute does in each move with the item whose own tray is at its position. */
public final class PassTest {
    private static final Due due = new Due("PassTest");

    public static void main(String[] args) {
        chutesAreLookedAtWhenTheLoopHasMoved();
        chutesAreLookedAtInEveryMove();
        chutesComeInOrder();
        chutesAtOnePositionComeInOrder();
        onlyTheOwnTrayCounts();
        othersChutesTakeAndCountNothing();
        roomIsLookedAtWhenItComesBy();
        itOverstaysWithAsManyRoundsAsThereMayBe();
        itGoesOutOverstayedOrNotWhereItIsTo();
        anOverstayedItemLeavesAtTheOverflowOnly();
        itemsToTheOverflowPassNothing();
        turnsComeBehindAllMoves();
        due.end();
    }

    /** "in each, when the loop has moved": an item put on right at its chute goes round first. */
    private static void chutesAreLookedAtWhenTheLoopHasMoved() {
        for (int i = 0; i < 4; i++) {
            LoopSorter x = new LoopSorter(16, 1);
            // of 16 trays induct i stands at chute 4 i
            x.induct(i, 1, 4 * i);
            due.answer("from induct " + i + ": step(16)", x.step(16), 0);
            due.answer("from induct " + i + ": step(1)", x.step(1), 1);
            due.answer("out(0, 2)", x.out(0, 2), 16);
            due.answer("out(0, 3)", x.out(0, 3), 0);
        }
    }

    private static void chutesAreLookedAtInEveryMove() {
        for (int c = 1; c <= 5; c++) {
            LoopSorter x = new LoopSorter(16, 1);
            x.speed(5);
            x.induct(0, 1, c);
            due.answer("put on: step(1)", x.step(1), 0);
            due.answer("to " + c + ", in the first five moves: step(1)", x.step(1), 1);
            due.answer("out(0, 2)", x.out(0, 2), 1);
        }
        LoopSorter y = new LoopSorter(16, 1);
        y.speed(5);
        y.induct(0, 1, 6);
        y.step(1);
        due.answer("to 6, not in the first five: step(1)", y.step(1), 0);
        due.answer("but in the next: step(1)", y.step(1), 1);
    }

    /** "for each chute in order": not by the items' numbers, nor by their trays or inducts. */
    private static void chutesComeInOrder() {
        LoopSorter x = new LoopSorter(16, 1);
        x.induct(3, 1, 13);
        x.induct(0, 1, 1);
        x.induct(2, 1, 9);
        x.induct(1, 1, 5);
        x.step(1);
        due.answer("step(1)", x.step(1), 4);
        int[] items = {2, 4, 3, 1};
        for (int i = 0; i < items.length; i++) {
            due.answer("out(" + i + ", 0)", x.out(i, 0), items[i]);
            due.answer("out(" + i + ", 1)", x.out(i, 1), 4 * i + 1);
        }
        LoopSorter y = new LoopSorter(16, 1);
        // a later move comes behind all chutes of the earlier one
        y.induct(0, 1, 2);
        y.induct(3, 1, 13);
        y.speed(2);
        y.step(1);
        due.answer("step(1)", y.step(1), 2);
        due.answer("out(0, 0)", y.out(0, 0), 2);
        due.answer("out(1, 0)", y.out(1, 0), 1);
    }

    /** An item that overstays at one chute leaves at 15 in the same move, if 15 stands there, too. */
    private static void chutesAtOnePositionComeInOrder() {
        for (int c = 0; c <= 14; c++) {
            LoopSorter x = new LoopSorter(1, 1);
            x.full(c, true);
            x.induct(0, 1, c);
            x.step(1);
            due.answer("of 1, to " + c + ": step(1)", x.step(1), 1);
            due.answer("out(0, 1)", x.out(0, 1), 15);
            due.answer("out(0, 3)", x.out(0, 3), 1);
        }
        // of 2 trays chutes 0 .. 7 stand at 0, 8 .. 15 at 1
        for (int c = 0; c <= 14; c++) {
            LoopSorter x = new LoopSorter(2, 1);
            x.full(c, true);
            x.induct(0, 1, c);
            x.step(1);
            due.answer("of 2, to " + c + ", first at 1: step(1)", x.step(1), c < 8 ? 0 : 1);
            due.answer("then at 0: step(1)", x.step(1), 0);
            due.answer("then at 1: step(1)", x.step(1), c < 8 ? 1 : 0);
            due.answer("out(0, 1)", x.out(0, 1), 15);
        }
    }

    /** "if the tray at its position is an item's own". */
    private static void onlyTheOwnTrayCounts() {
        LoopSorter x = new LoopSorter(16, 1);
        x.induct(0, 2, 0);
        x.step(1);
        // after one move the other tray is at position 0, chute 0's, and the own one is past it
        due.answer("the other tray: step(1)", x.step(1), 0);
        due.answer("step(14)", x.step(14), 0);
        due.answer("the own tray: step(1)", x.step(1), 1);
        due.answer("out(0, 3)", x.out(0, 3), 0);
        LoopSorter y = new LoopSorter(16, 20);
        y.full(2, true);
        y.induct(0, 2, 2);
        y.step(3);
        due.answer("the own tray passes: round(1)", y.round(1), 1);
        y.full(2, false);
        due.answer("the other tray goes not out: step(1)", y.step(1), 0);
        due.answer("nor passes: round(1)", y.round(1), 1);
        due.answer("a round later: step(14)", y.step(14), 0);
        due.answer("step(1)", y.step(1), 1);
        LoopSorter z = new LoopSorter(2, 1);
        // to chute 8 at position 1; its own tray is there in every second move
        z.induct(2, 2, 8);
        z.step(1);
        due.answer("of 2, the other tray: step(1)", z.step(1), 0);
        due.answer("of 2, the own tray: step(1)", z.step(1), 1);
    }

    /** "otherwise, if it is to this chute, it has passed it": at others' chutes nothing happens. */
    private static void othersChutesTakeAndCountNothing() {
        LoopSorter x = new LoopSorter(16, 20);
        x.induct(0, 1, 7);
        x.step(1);
        due.answer("chutes with room: step(6)", x.step(6), 0);
        due.answer("round(1)", x.round(1), 0);
        due.answer("step(1)", x.step(1), 1);
        LoopSorter y = new LoopSorter(16, 20);
        for (int c = 0; c < 15; c++) {
            y.full(c, true);
        }
        y.induct(0, 1, 7);
        y.step(7);
        due.answer("shut chutes: round(1)", y.round(1), 0);
        y.step(1);
        due.answer("its own shut chute: round(1)", y.round(1), 1);
        y.step(15);
        due.answer("shut chutes and the overflow: round(1)", y.round(1), 1);
        y.step(1);
        due.answer("round(1)", y.round(1), 2);
    }

    /** "it goes OUT here if there is room". */
    private static void roomIsLookedAtWhenItComesBy() {
        for (int before = 0; before <= 2; before++) {
            LoopSorter x = new LoopSorter(16, 20);
            x.full(7, true);
            x.induct(0, 1, 7);
            x.step(1 + 6 + before);
            x.full(7, false);
            // at 6 the next move brings it there; at 7 and 8 it has passed
            due.answer("emptied at " + (6 + before) + ": round(1)", x.round(1), before == 0 ? 0 : 1);
            due.answer("step(1)", x.step(1), before == 0 ? 1 : 0);
            due.answer("step(16)", x.step(16), before == 0 ? 0 : 1);
        }
    }

    /** "with as many as there may be it has overstayed (whatever the chute)". */
    private static void itOverstaysWithAsManyRoundsAsThereMayBe() {
        int[] allowed = {1, 2, 3, 19, 20};
        for (int rounds : allowed) {
            for (int c = 0; c < 15; c++) {
                LoopSorter x = new LoopSorter(16, rounds);
                String made = rounds + " rounds, to " + c + ": ";
                x.full(c, true);
                x.induct(0, 1, c);
                // it starts at chute 0, so that it comes past that one behind all the others
                int movesToOverflow = 16 * (c == 0 ? rounds : rounds - 1) + 15;
                x.step(1);
                due.answer(made + "comes past 15 before", x.step(movesToOverflow - 1), 0);
                due.answer(made + "round(1)", x.round(1), rounds);
                due.answer(made + "overstayed, at 15", x.step(1), 1);
                due.answer(made + "out(0, 1)", x.out(0, 1), 15);
                due.answer(made + "out(0, 2)", x.out(0, 2), movesToOverflow);
                due.answer(made + "out(0, 3)", x.out(0, 3), rounds);
            }
        }
    }

    /** "if it is to this chute (overstayed or not)". */
    private static void itGoesOutOverstayedOrNotWhereItIsTo() {
        int[] passesBefore = {1, 2, 3};
        for (int passes : passesBefore) {
            LoopSorter x = new LoopSorter(16, 2);
            x.full(1, true);
            x.induct(0, 1, 1);
            x.step(2);
            for (int p = 1; p < passes; p++) {
                // missed at the overflow, so that it comes back to its chute
                x.missed(1);
                x.step(15);
                x.found(1, 15);
                x.step(1);
            }
            due.answer("round(1)", x.round(1), passes);
            x.missed(1);
            x.step(15);
            x.found(1, 15);
            x.full(1, false);
            due.answer("behind " + passes + " of 2 rounds: step(1)", x.step(1), 1);
            due.answer("out(0, 1)", x.out(0, 1), 1);
            due.answer("out(0, 3)", x.out(0, 3), passes);
        }
    }

    /** "or has OVERSTAYED and this is 15". */
    private static void anOverstayedItemLeavesAtTheOverflowOnly() {
        LoopSorter x = new LoopSorter(16, 1);
        x.full(7, true);
        x.induct(0, 1, 7);
        x.step(8);
        due.answer("round(1)", x.round(1), 1);
        x.full(7, false);
        due.answer("past 8 .. 14, which have room: step(7)", x.step(7), 0);
        due.answer("at 15: step(1)", x.step(1), 1);
        due.answer("out(0, 1)", x.out(0, 1), 15);
        due.answer("nothing lies in 14: full(14, false)", x.full(14, false), 0);
        due.answer("nor in 7: full(7, false)", x.full(7, false), 0);
        due.answer("but in 15: full(15, false)", x.full(15, false), 1);
    }

    private static void itemsToTheOverflowPassNothing() {
        LoopSorter x = new LoopSorter(16, 1);
        x.full(15, true);
        x.induct(0, 1, 15);
        x.step(1);
        due.answer("step(14)", x.step(14), 0);
        due.answer("step(1)", x.step(1), 1);
        due.answer("out(0, 1)", x.out(0, 1), 15);
        due.answer("out(0, 3)", x.out(0, 3), 0);
    }

    /** "Then, behind all moves, .. the inducts take turns". */
    private static void turnsComeBehindAllMoves() {
        LoopSorter x = new LoopSorter(16, 1);
        x.speed(5);
        for (int i = 0; i < 8; i++) {
            x.induct(0, 1, 1);
        }
        due.answer("put on behind the moves: step(1)", x.step(1), 0);
        due.answer("one turn for five moves: share(0)", x.share(0), 1);
        due.answer("on the tray that is there then: tray(11)", x.tray(11), 1);
        due.answer("step(1)", x.step(1), 1);
        due.answer("share(0)", x.share(0), 2);
        due.answer("tray(6)", x.tray(6), 2);
    }
}

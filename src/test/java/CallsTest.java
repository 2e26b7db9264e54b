/** What it is: "An object is used for at most 512 calls after it has been made". */
public final class CallsTest {
    private static final Due due = new Due("CallsTest");

    public static void main(String[] args) {
        theLastCallsAreAnsweredLikeTheFirst();
        timeGoesOnThroughAllCalls();
        aFullLoopGoesOnThroughAllCalls();
        due.end();
    }

    private static void theLastCallsAreAnsweredLikeTheFirst() {
        LoopSorter x = new LoopSorter(1, 1);
        for (int call = 1; call <= 506; call++) {
            due.answer("call " + call + ": speed(0)", x.speed(0), LoopSorter.OUTSIDE);
        }
        due.answer("call 507: induct(0, 1, 3)", x.induct(0, 1, 3), 1);
        due.answer("call 508: step(2)", x.step(2), 1);
        due.answer("call 509: out(0, 1)", x.out(0, 1), 3);
        due.answer("call 510: out(0, 2)", x.out(0, 2), 1);
        due.answer("call 511: full(3, false)", x.full(3, false), 1);
        due.answer("call 512: share(0)", x.share(0), 1);
    }

    private static void timeGoesOnThroughAllCalls() {
        LoopSorter x = new LoopSorter(200, 1);
        due.answer("call 1: speed(5)", x.speed(5), 1);
        for (int call = 2; call <= 509; call++) {
            due.answer("call " + call + ": step(1000)", x.step(1000), 0);
        }
        due.answer("call 510: induct(0, 1, 0)", x.induct(0, 1, 0), 1);
        due.answer("call 511: step(1000)", x.step(1000), 1);
        // put on at time 508000; chute 0 stands at 6, and the second five moves come to it
        due.answer("call 512: out(0, 2)", x.out(0, 2), 508002);
    }

    private static void aFullLoopGoesOnThroughAllCalls() {
        LoopSorter x = new LoopSorter(4, 1);
        x.speed(5);
        for (int i = 0; i < 4; i++) {
            x.induct(i, 1, 0);
        }
        x.step(1);
        for (int item = 1; item <= 4; item++) {
            due.answer("missed", x.missed(item), Math.floorMod(item - 1 - 5, 4));
        }
        for (int call = 11; call <= 511; call++) {
            due.answer("call " + call + ": step(1000)", x.step(1000), 0);
        }
        due.answer("call 512: round(4)", x.round(4), 0);
    }
}

/** A loop of trays that carries parcels past inducts and chutes; the document is ../shared/DOC.md. */
public final class LoopSorter {
    public static final int UNKNOWN = -11, OUTSIDE = -12, STATE = -13, ROOM = -14;

    private static final int MOST_TRAYS = 200;
    private static final int MOST_ROUNDS = 20;
    private static final int MOST_ITEMS = 400;
    private static final int MOST_STEPS = 1000;
    private static final int MOST_SPEED = 5;
    private static final int INDUCTS = 4;
    private static final int CHUTES = 16;
    private static final int OVERFLOW = 15;
    private static final int LONG_LENGTH = 2;

    private final int trayCount;
    private final int roundsAllowed;
    private final Item[] carriedBy;
    private final Induct[] inducts;
    private final Chute[] chutes;
    /** Item n stands at n - 1; numbers are given from 1 on. */
    private final Item[] items;
    private final Item[] gone;
    private int itemCount;
    private int goneCount;
    private int carriedCount;
    private int movesPerStep;
    private int time;
    /** The position of tray 0: all moves so far, less whole turns of the loop. */
    private int shift;

    public LoopSorter(int trays, int rounds) {
        trayCount = bringWithin(trays, MOST_TRAYS);
        roundsAllowed = bringWithin(rounds, MOST_ROUNDS);
        carriedBy = new Item[trayCount];
        items = new Item[MOST_ITEMS];
        gone = new Item[MOST_ITEMS];
        movesPerStep = 1;
        inducts = new Induct[INDUCTS];
        for (int i = 0; i < INDUCTS; i++) {
            inducts[i] = new Induct(i * trayCount / INDUCTS);
        }
        chutes = new Chute[CHUTES];
        for (int c = 0; c < CHUTES; c++) {
            chutes[c] = new Chute((c * trayCount + trayCount / 2) / CHUTES, c == OVERFLOW);
        }
    }

    public int induct(int induct, int length, int chute) {
        if (!isInduct(induct) || !isChute(chute)) {
            return UNKNOWN;
        }
        if (length < 1 || length > LONG_LENGTH) {
            return OUTSIDE;
        }
        if (itemCount >= MOST_ITEMS) {
            return ROOM;
        }
        if (inducts[induct].isRowFull()) {
            return 0;
        }
        Item item = new Item(itemCount + 1, length, chute);
        items[itemCount] = item;
        itemCount++;
        inducts[induct].addLast(item);
        return item.number;
    }

    public int step(int n) {
        if (n < 0 || n > MOST_STEPS) {
            return OUTSIDE;
        }
        int goneBefore = goneCount;
        for (int i = 0; i < n; i++) {
            runOneStep();
        }
        return goneCount - goneBefore;
    }

    public int out(int i, int what) {
        Item item = itemGoneAs(i);
        if (item == null) {
            return UNKNOWN;
        }
        switch (what) {
            case 0:
                return item.number;
            case 1:
                return item.outChute;
            case 2:
                return item.outTime;
            case 3:
                return item.rounds;
            default:
                return OUTSIDE;
        }
    }

    public int tray(int k) throws ArrayIndexOutOfBoundsException {
        if (!isTray(k)) {
            throw new ArrayIndexOutOfBoundsException("no such tray");
        }
        Item item = itemOn(k);
        return item == null ? 0 : item.number;
    }

    public int full(int chute, boolean on) {
        if (!isChute(chute)) {
            return UNKNOWN;
        }
        if (on && chute == OVERFLOW) {
            return STATE;
        }
        int lyingBefore = chutes[chute].lying;
        if (on) {
            chutes[chute].holdShut();
        } else {
            chutes[chute].empty();
        }
        return lyingBefore;
    }

    public int missed(int item) {
        Item sought = itemNumbered(item);
        if (sought == null) {
            return UNKNOWN;
        }
        if (sought.place != Place.CARRIED) {
            return STATE;
        }
        sought.place = Place.MISSED;
        return sought.ownTray;
    }

    public int found(int item, int tray) throws ArrayIndexOutOfBoundsException {
        Item sought = itemNumbered(item);
        if (sought == null) {
            return UNKNOWN;
        }
        if (sought.place != Place.MISSED) {
            return STATE;
        }
        if (!isTray(tray)) {
            throw new ArrayIndexOutOfBoundsException("no such tray");
        }
        if (sought.ownTray != tray) {
            return 0;
        }
        sought.place = Place.CARRIED;
        return 1;
    }

    public int speed(int s) {
        if (s < 1 || s > MOST_SPEED) {
            return OUTSIDE;
        }
        int speedBefore = movesPerStep;
        movesPerStep = s;
        return speedBefore;
    }

    public long share(int induct) {
        return isInduct(induct) ? inducts[induct].putOnCount : UNKNOWN;
    }

    public int round(int item) {
        Item sought = itemNumbered(item);
        return sought == null ? UNKNOWN : sought.rounds;
    }

    private static int bringWithin(int value, int most) {
        return Math.max(1, Math.min(most, value));
    }

    private static boolean isInduct(int number) {
        return number >= 0 && number < INDUCTS;
    }

    private static boolean isChute(int number) {
        return number >= 0 && number < CHUTES;
    }

    private boolean isTray(int number) {
        return number >= 0 && number < trayCount;
    }

    /** The item of this number, or null when there is none. */
    private Item itemNumbered(int number) {
        return number < 1 || number > itemCount ? null : items[number - 1];
    }

    /** The i-th item that went out, or null when there is none. */
    private Item itemGoneAs(int i) {
        return i < 0 || i >= goneCount ? null : gone[i];
    }

    /** The item on this tray, or null when there is none. */
    private Item itemOn(int tray) {
        return isTray(tray) ? carriedBy[tray] : null;
    }

    private void runOneStep() {
        for (int i = 0; i < movesPerStep; i++) {
            shift = shift + 1 < trayCount ? shift + 1 : 0;
            // Long waits on an empty loop are common, and no chute can take anything then.
            if (carriedCount > 0) {
                passChutes();
            }
        }
        time++;
        takeTurns();
    }

    private void passChutes() {
        for (int c = 0; c < CHUTES; c++) {
            int tray = trayAt(chutes[c].position);
            Item item = itemOn(tray);
            if (item != null && item.ownTray == tray && item.place == Place.CARRIED) {
                passChute(item, c);
            }
        }
    }

    private void passChute(Item item, int chute) {
        boolean isItsChute = item.chute == chute;
        boolean mustLeave = chute == OVERFLOW && item.rounds >= roundsAllowed;
        if (!isItsChute && !mustLeave) {
            return;
        }
        if (chutes[chute].hasRoom()) {
            letOut(item, chute);
        } else if (isItsChute) {
            // Counted on beyond the limit, too: an item missed at the overflow may come round again.
            item.rounds++;
        }
    }

    private void letOut(Item item, int chute) {
        setTraysOf(item, null);
        carriedCount--;
        chutes[chute].lying++;
        item.place = Place.OUT;
        item.outChute = chute;
        item.outTime = time;
        if (goneCount < MOST_ITEMS) {
            gone[goneCount] = item;
            goneCount++;
        }
    }

    private void takeTurns() {
        for (int i = 0; i < INDUCTS; i++) {
            inducts[i].hadTurn = false;
        }
        for (int turn = 0; turn < INDUCTS; turn++) {
            Induct next = nextInTurn();
            if (next != null) {
                next.hadTurn = true;
                putFirstOn(next);
            }
        }
    }

    private Induct nextInTurn() {
        Induct next = null;
        for (int i = 0; i < INDUCTS; i++) {
            Induct other = inducts[i];
            // Strictly less, so that of equal shares the least number comes first.
            if (!other.hadTurn && (next == null || other.putOnCount < next.putOnCount)) {
                next = other;
            }
        }
        return next;
    }

    private void putFirstOn(Induct induct) {
        Item item = induct.first();
        int tray = trayAt(induct.position);
        if (item == null || !isFreeFor(item, tray)) {
            return;
        }
        induct.removeFirst();
        induct.putOnCount++;
        item.ownTray = tray;
        item.place = Place.CARRIED;
        setTraysOf(item, item);
        carriedCount++;
    }

    private boolean isFreeFor(Item item, int tray) {
        if (itemOn(tray) != null) {
            return false;
        }
        // On a loop of one tray the tray behind is the tray itself, and free, but it is no second one.
        return item.length < LONG_LENGTH || (trayCount > 1 && itemOn(trayBehind(tray)) == null);
    }

    private void setTraysOf(Item item, Item carried) {
        setTray(item.ownTray, carried);
        if (item.length == LONG_LENGTH) {
            setTray(trayBehind(item.ownTray), carried);
        }
    }

    private void setTray(int tray, Item carried) {
        if (tray >= 0 && tray < trayCount) {
            carriedBy[tray] = carried;
        }
    }

    private int trayAt(int position) {
        int tray = position - shift;
        return tray < 0 ? tray + trayCount : tray;
    }

    private int trayBehind(int tray) {
        return tray > 0 ? tray - 1 : trayCount - 1;
    }

    private enum Place { WAITING, CARRIED, MISSED, OUT }

    private static final class Item {
        final int number;
        final int length;
        final int chute;
        Place place;
        int ownTray;
        int rounds;
        int outChute;
        int outTime;

        Item(int number, int length, int chute) {
            this.number = number;
            this.length = length;
            this.chute = chute;
            place = Place.WAITING;
        }
    }

    private static final class Induct {
        private static final int MOST_WAITING = 8;

        final int position;
        final Item[] row;
        int waiting;
        long putOnCount;
        boolean hadTurn;

        Induct(int position) {
            this.position = position;
            row = new Item[MOST_WAITING];
        }

        boolean isRowFull() {
            return waiting >= MOST_WAITING;
        }

        void addLast(Item item) {
            if (!isRowFull()) {
                row[waiting] = item;
                waiting++;
            }
        }

        /** The item that has waited longest, or null when none waits. */
        Item first() {
            return waiting > 0 ? row[0] : null;
        }

        void removeFirst() {
            if (waiting > 0) {
                waiting--;
                for (int i = 0; i < waiting; i++) {
                    row[i] = row[i + 1];
                }
                row[waiting] = null;
            }
        }
    }

    private static final class Chute {
        private static final int MOST_LYING = 10;

        final int position;
        final boolean isOverflow;
        int lying;
        boolean heldShut;

        Chute(int position, boolean isOverflow) {
            this.position = position;
            this.isOverflow = isOverflow;
        }

        boolean hasRoom() {
            return isOverflow || (!heldShut && lying < MOST_LYING);
        }

        void holdShut() {
            heldShut = true;
        }

        void empty() {
            heldShut = false;
            lying = 0;
        }
    }
}

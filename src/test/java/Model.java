import java.util.ArrayDeque;
import java.util.ArrayList;
import java.util.Comparator;
import java.util.Deque;
import java.util.List;

/**
 * The document once more, in the dearest and plainest way: items know their trays, and every
 * question is answered by looking through all items. For comparison with LoopSorter only.
 */
final class Model {
    static final long THREW = Long.MIN_VALUE;

    private static final class Parcel {
        int number;
        int length;
        int to;
        int own = -1;
        boolean lost;
        boolean overstayed;
        int rounds;
        int[] log;

        boolean onLoop() {
            return own >= 0 && log == null;
        }
    }

    private final int size;
    private final int limit;
    private final List<Parcel> all = new ArrayList<>();
    private final List<Parcel> left = new ArrayList<>();
    private final List<Deque<Parcel>> rows = new ArrayList<>();
    private final long[] shares = new long[4];
    private final int[] heap = new int[16];
    private final boolean[] shut = new boolean[16];
    private long moves = 0;
    private int clock = 0;
    private int pace = 1;

    Model(int trays, int rounds) {
        size = trays < 1 ? 1 : trays > 200 ? 200 : trays;
        limit = rounds < 1 ? 1 : rounds > 20 ? 20 : rounds;
        for (int i = 0; i < 4; i++) {
            rows.add(new ArrayDeque<>());
        }
    }

    long induct(int induct, int length, int chute) {
        if (induct < 0 || induct > 3 || chute < 0 || chute > 15) return LoopSorter.UNKNOWN;
        if (length != 1 && length != 2) return LoopSorter.OUTSIDE;
        if (all.size() == 400) return LoopSorter.ROOM;
        if (rows.get(induct).size() == 8) return 0;
        Parcel p = new Parcel();
        p.number = all.size() + 1;
        p.length = length;
        p.to = chute;
        all.add(p);
        rows.get(induct).add(p);
        return p.number;
    }

    long step(int n) {
        if (n < 0 || n > 1000) return LoopSorter.OUTSIDE;
        int before = left.size();
        for (int i = 0; i < n; i++) {
            for (int m = 0; m < pace; m++) {
                moves++;
                for (int c = 0; c < 16; c++) {
                    for (Parcel p : all) {
                        if (p.onLoop() && !p.lost && (p.own + moves) % size == (c * size + size / 2) / 16) {
                            pass(p, c);
                        }
                    }
                }
            }
            clock++;
            turns();
        }
        return left.size() - before;
    }

    private void pass(Parcel p, int c) {
        if (p.to != c && !(p.overstayed && c == 15)) return;
        if (c == 15 || (!shut[c] && heap[c] < 10)) {
            p.log = new int[] {p.number, c, clock, p.rounds};
            left.add(p);
            heap[c]++;
        } else {
            p.rounds++;
            if (p.rounds == limit) p.overstayed = true;
        }
    }

    private void turns() {
        List<Integer> order = new ArrayList<>(List.of(0, 1, 2, 3));
        // a stable sort: of equal shares the least number stays first
        order.sort(Comparator.comparingLong(i -> shares[i]));
        int[] positions = {0, size / 4, size / 2, 3 * size / 4};
        for (int i : order) {
            Parcel p = rows.get(i).peek();
            if (p == null) continue;
            int tray = (int) Math.floorMod(positions[i] - moves, (long) size);
            int other = tray == 0 ? size - 1 : tray - 1;
            if (lying(tray) != 0) continue;
            if (p.length == 2 && (size < 2 || lying(other) != 0)) continue;
            rows.get(i).remove();
            p.own = tray;
            shares[i]++;
        }
    }

    private int lying(int k) {
        for (Parcel p : all) {
            if (p.onLoop() && (p.own == k || (p.length == 2 && Math.floorMod(p.own - 1, size) == k))) return p.number;
        }
        return 0;
    }

    long out(int i, int what) {
        if (i < 0 || i >= left.size()) return LoopSorter.UNKNOWN;
        return what < 0 || what > 3 ? LoopSorter.OUTSIDE : left.get(i).log[what];
    }

    long tray(int k) {
        return k < 0 || k >= size ? THREW : lying(k);
    }

    long full(int chute, boolean on) {
        if (chute < 0 || chute > 15) return LoopSorter.UNKNOWN;
        if (chute == 15 && on) return LoopSorter.STATE;
        int before = heap[chute];
        shut[chute] = on;
        if (!on) heap[chute] = 0;
        return before;
    }

    private boolean known(int item) {
        return item >= 1 && item <= all.size();
    }

    long missed(int item) {
        if (!known(item)) return LoopSorter.UNKNOWN;
        Parcel p = all.get(item - 1);
        if (!p.onLoop() || p.lost) return LoopSorter.STATE;
        p.lost = true;
        return p.own;
    }

    long found(int item, int tray) {
        if (!known(item)) return LoopSorter.UNKNOWN;
        Parcel p = all.get(item - 1);
        if (!p.onLoop() || !p.lost) return LoopSorter.STATE;
        if (tray < 0 || tray >= size) return THREW;
        if (tray != p.own) return 0;
        p.lost = false;
        return 1;
    }

    long speed(int s) {
        if (s < 1 || s > 5) return LoopSorter.OUTSIDE;
        int before = pace;
        pace = s;
        return before;
    }

    long share(int induct) {
        return induct < 0 || induct > 3 ? LoopSorter.UNKNOWN : shares[induct];
    }

    long round(int item) {
        return known(item) ? all.get(item - 1).rounds : LoopSorter.UNKNOWN;
    }
}

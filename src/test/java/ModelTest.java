import java.util.ArrayList;
import java.util.List;
import java.util.Random;

/** Long mixed runs, all promises at once: each answer is compared with that of a plain model. */
public final class ModelTest {
    private static final Due due = new Due("ModelTest");
    private static final int RUNS = 600;
    private static final int CALLS = 512;
    private static final int[] SIZES = {1, 2, 3, 4, 5, 6, 7, 8, 9, 12, 15, 16, 17, 23, 31, 32, 33, 64, 100, 199, 200};

    private final Random random;
    private final LoopSorter sorter;
    private final Model model;
    private final String made;
    private final int size;
    /** Few chutes make full ones; which share of calls are inducts differs from run to run. */
    private final int chutes;
    private final int inductsInTen;
    private final List<int[]> missedOnes = new ArrayList<>();

    public static void main(String[] args) {
        for (int seed = 1; seed <= RUNS; seed++) {
            new ModelTest(seed).run();
        }
        due.end();
    }

    private ModelTest(int seed) {
        random = new Random(seed);
        size = SIZES[random.nextInt(SIZES.length)];
        int rounds = random.nextInt(4) == 0 ? random.nextInt(30) - 3 : 1 + random.nextInt(3);
        sorter = new LoopSorter(size, rounds);
        model = new Model(size, rounds);
        made = "seed " + seed + ", new LoopSorter(" + size + ", " + rounds + "), call ";
        chutes = 1 + random.nextInt(16);
        inductsInTen = 2 + random.nextInt(8);
    }

    private void run() {
        for (int i = 0; i < CALLS; i++) {
            if (random.nextInt(10) < inductsInTen) {
                callInduct(i);
            } else {
                callAnother(i);
            }
        }
    }

    private void compare(int i, String call, long got, long want) {
        due.answer(made + i + ": " + call, got, want);
    }

    /** Mostly within 0 .. bound - 1, at times just outside it. */
    private int about(int bound) {
        return random.nextInt(12) == 0 ? (random.nextBoolean() ? -1 : bound) : random.nextInt(bound);
    }

    private void callInduct(int i) {
        int induct = about(4);
        int length = random.nextInt(20) == 0 ? random.nextInt(5) - 1 : 1 + random.nextInt(2);
        int chute = random.nextInt(20) == 0 ? about(16) : (15 + random.nextInt(chutes)) % 16;
        compare(i, "induct(" + induct + ", " + length + ", " + chute + ")",
            sorter.induct(induct, length, chute), model.induct(induct, length, chute));
    }

    private void callAnother(int i) {
        switch (random.nextInt(11)) {
            case 0: case 1: case 2: callStep(i); break;
            case 3: callOut(i); break;
            case 4: callTray(i); break;
            case 5: callFull(i); break;
            case 6: callMissed(i); break;
            case 7: callFound(i); break;
            case 8: callSpeed(i); break;
            case 9: callShare(i); break;
            default: callRound(i); break;
        }
    }

    private void callStep(int i) {
        int n = random.nextInt(30) == 0 ? -1 : random.nextInt(1 + random.nextInt(40));
        compare(i, "step(" + n + ")", sorter.step(n), model.step(n));
    }

    private void callOut(int i) {
        int row = random.nextInt(1 + random.nextInt(60)) - 1;
        int what = about(4);
        compare(i, "out(" + row + ", " + what + ")", sorter.out(row, what), model.out(row, what));
    }

    private void callTray(int i) {
        int k = about(size);
        long got;
        try {
            got = sorter.tray(k);
        } catch (ArrayIndexOutOfBoundsException e) {
            got = Model.THREW;
        }
        compare(i, "tray(" + k + ")", got, model.tray(k));
    }

    private void callFull(int i) {
        int chute = random.nextInt(4) == 0 ? about(16) : (15 + random.nextInt(chutes)) % 16;
        boolean on = random.nextInt(3) > 0;
        compare(i, "full(" + chute + ", " + on + ")", sorter.full(chute, on), model.full(chute, on));
    }

    private int someItem() {
        return random.nextInt(1 + random.nextInt(100));
    }

    /** Mostly an item that is on the loop: others are only refused. */
    private int someCarriedItem() {
        int item = 0;
        for (int tries = 0; tries < 10 && item == 0; tries++) {
            item = (int) model.tray(random.nextInt(size));
        }
        return item == 0 || random.nextInt(5) == 0 ? someItem() : item;
    }

    private void callMissed(int i) {
        int item = someCarriedItem();
        long want = model.missed(item);
        compare(i, "missed(" + item + ")", sorter.missed(item), want);
        if (want >= 0) {
            missedOnes.add(new int[] {item, (int) want});
        }
    }

    private void callFound(int i) {
        int item = someCarriedItem();
        int tray = about(size);
        if (!missedOnes.isEmpty() && random.nextInt(4) > 0) {
            int[] missedOne = missedOnes.get(random.nextInt(missedOnes.size()));
            item = missedOne[0];
            tray = random.nextInt(3) > 0 ? missedOne[1] : about(size);
        }
        long got;
        try {
            got = sorter.found(item, tray);
        } catch (ArrayIndexOutOfBoundsException e) {
            got = Model.THREW;
        }
        compare(i, "found(" + item + ", " + tray + ")", got, model.found(item, tray));
    }

    private void callSpeed(int i) {
        int s = random.nextInt(7);
        compare(i, "speed(" + s + ")", sorter.speed(s), model.speed(s));
    }

    private void callShare(int i) {
        int induct = about(4);
        compare(i, "share(" + induct + ")", sorter.share(induct), model.share(induct));
    }

    private void callRound(int i) {
        int item = someItem();
        compare(i, "round(" + item + ")", sorter.round(item), model.round(item));
    }
}

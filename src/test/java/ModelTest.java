import java.util.Random;

/** Long runs of calls on a tier and on its model: each answer, and at the end all that can be seen, must agree. */
public final class ModelTest {
    private static final int RUNS = 4000;
    // With the last ones and all that is looked at when a run ends, that stays under the 512 calls of an object.
    private static final int MOST_CALLS = 270;

    private final Random random;
    private final Pair pair;
    private final int blocks;

    private ModelTest(int run) {
        // A seed of its own for each run, so that a run that goes wrong can be run again.
        random = new Random(run);
        int slots = random.nextInt(15) - 1;
        pair = new Pair(slots, () -> "run " + run + " with " + slots + " slots");
        blocks = random.nextBoolean() ? 64 : 1 + random.nextInt(16);
    }

    public static void main(String[] args) {
        for (int run = 0; run < RUNS; run++) {
            new ModelTest(run).go();
        }
        Expect.end();
    }

    private void go() {
        int calls = random.nextInt(MOST_CALLS + 1);
        while (pair.calls() < calls) {
            callOrLook();
        }
        for (int b = 0; b < Look.BLOCKS; b++) {
            pair.lookAtBlock(b);
        }
        for (int k = 0; k <= 12; k++) {
            pair.lookAtPlace(k);
            pair.lookAtFigure(k);
        }
    }

    private void callOrLook() {
        int b = block();
        long v = random.nextInt(8) == 0 ? random.nextLong() : random.nextInt(100);
        int kind = random.nextInt(100);
        if (kind < 30) {
            pair.read(b);
        } else if (kind < 60) {
            pair.write(b, v);
        } else if (kind < 68) {
            pair.cut(b, v, random.nextInt(5) - 1);
        } else if (kind < 74) {
            pair.mode(random.nextInt(5) - 1);
        } else if (kind < 84) {
            pair.back(random.nextInt(3) == 0 ? random.nextInt(15) - 1 : random.nextInt(3));
        } else if (kind < 87) {
            pair.check();
        } else if (kind < 89) {
            pair.crash();
        } else if (kind < 90) {
            pair.lose();
        } else {
            look(b, kind);
        }
    }

    private void look(int b, int kind) {
        int k = random.nextInt(10) - 1;
        if (kind < 95) {
            pair.lookAtBlock(b);
        } else if (kind < 98) {
            pair.lookAtPlace(k);
        } else {
            pair.lookAtFigure(k);
        }
    }

    /** Seldom one that there is not. */
    private int block() {
        int pick = random.nextInt(200);
        if (pick == 0) {
            return -1;
        }
        return pick == 1 ? 64 : random.nextInt(blocks);
    }
}

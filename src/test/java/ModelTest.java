import java.util.Random;
import java.util.function.Supplier;

/** Long runs of calls on a tier and on the model: each answer, and at the end all that can be seen, must agree. */
public final class ModelTest {
    private static final int RUNS = 4000;
    // With what is looked at when a run ends, that stays under the 512 calls of an object.
    private static final int MOST_CALLS = 260;

    private final Random random;
    private final WriteBackTier tier;
    private final Model model;
    private final int blocks;
    private final String name;

    private ModelTest(int run) {
        // A seed of its own for each run, so that a run that goes wrong can be run again.
        random = new Random(run);
        int slots = random.nextInt(15) - 1;
        tier = new WriteBackTier(slots);
        model = new Model(slots);
        blocks = random.nextBoolean() ? 64 : 1 + random.nextInt(16);
        name = "run " + run + " with " + slots + " slots";
    }

    public static void main(String[] args) {
        for (int run = 0; run < RUNS; run++) {
            new ModelTest(run).go();
        }
        Expect.end();
    }

    private void go() {
        int calls = random.nextInt(MOST_CALLS + 1);
        for (int call = 0; call < calls; call++) {
            oneCall("call " + call);
        }
        for (int b = 0; b < 64; b++) {
            int block = b;
            compare("origin " + b, () -> tier.origin(block), () -> model.origin(block));
            compare("slot " + b, () -> tier.slot(block), () -> model.slot(block));
            if (model.slot(b) >= 0) {
                compare("dirty " + b, () -> tier.dirty(block), () -> model.dirty(block));
            }
        }
        for (int i = 0; i <= 12; i++) {
            int k = i;
            compare("order " + k, () -> tier.order(k), () -> model.order(k));
            compare("noted " + k, () -> tier.noted(k), () -> model.noted(k));
            compare("figure " + k, () -> tier.figure(k), () -> model.figure(k));
        }
    }

    private void oneCall(String call) {
        int b = block();
        long v = random.nextInt(8) == 0 ? random.nextLong() : random.nextInt(100);
        int kind = random.nextInt(100);
        if (kind < 30) {
            compare(call + " read " + b, () -> tier.read(b), () -> model.read(b));
        } else if (kind < 60) {
            compare(call + " write " + b, () -> {
                tier.write(b, v);
                return "";
            }, () -> {
                model.write(b, v);
                return "";
            });
        } else if (kind < 68) {
            int n = random.nextInt(5) - 1;
            compare(call + " cut " + b + " " + n, () -> tier.cut(b, v, n), () -> model.cut(b, v, n));
        } else if (kind < 74) {
            int m = random.nextInt(5) - 1;
            compare(call + " mode " + m, () -> tier.mode(m), () -> model.mode(m));
        } else if (kind < 84) {
            int n = random.nextInt(3) == 0 ? random.nextInt(15) - 1 : random.nextInt(3);
            compare(call + " back " + n, () -> tier.back(n), () -> model.back(n));
        } else {
            rareCall(call, b, kind);
        }
    }

    private void rareCall(String call, int b, int kind) {
        int k = random.nextInt(10) - 1;
        if (kind < 87) {
            compare(call + " check", tier::check, model::check);
        } else if (kind < 89) {
            compare(call + " crash", tier::crash, model::crash);
        } else if (kind < 90) {
            compare(call + " lose", tier::lose, model::lose);
        } else if (kind < 93) {
            compare(call + " dirty " + b, () -> tier.dirty(b), () -> model.dirty(b));
        } else if (kind < 95) {
            compare(call + " slot " + b, () -> tier.slot(b), () -> model.slot(b));
        } else if (kind < 97) {
            compare(call + " order " + k, () -> tier.order(k), () -> model.order(k));
        } else if (kind < 98) {
            compare(call + " origin " + b, () -> tier.origin(b), () -> model.origin(b));
        } else {
            compare(call + " figure " + k, () -> tier.figure(k), () -> model.figure(k));
        }
    }

    /** Seldom one that there is not. */
    private int block() {
        int pick = random.nextInt(200);
        if (pick == 0) {
            return -1;
        }
        return pick == 1 ? 64 : random.nextInt(blocks);
    }

    private void compare(String call, Supplier<Object> ofTier, Supplier<Object> ofModel) {
        Expect.same(name + ", " + call, outcome(ofTier), outcome(ofModel));
    }

    private static Object outcome(Supplier<Object> call) {
        try {
            return call.get();
        } catch (RuntimeException e) {
            return e.getClass();
        }
    }
}

import java.util.function.Supplier;

/** A tier and its model: each call goes to both, and what they answer must agree. */
final class Pair {
    private final Supplier<String> name;
    private final WriteBackTier tier;
    private final Model model;
    private int calls;

    /** The name is asked for when an answer is wrong: there are millions of right ones. */
    Pair(int slots, Supplier<String> name) {
        this.name = name;
        tier = new WriteBackTier(slots);
        model = new Model(slots);
    }

    /** The model's, which is the tier's too as long as no answer is wrong. */
    String state() {
        return model.state();
    }

    int calls() {
        return calls;
    }

    void read(int b) {
        compare("read", b, () -> tier.read(b), () -> model.read(b));
    }

    void write(int b, long v) {
        compare("write", b, () -> {
            tier.write(b, v);
            return "";
        }, () -> {
            model.write(b, v);
            return "";
        });
    }

    void cut(int b, long v, int n) {
        compare("cut", b + " " + n, () -> tier.cut(b, v, n), () -> model.cut(b, v, n));
    }

    void mode(int m) {
        compare("mode", m, () -> tier.mode(m), () -> model.mode(m));
    }

    void back(int n) {
        compare("back", n, () -> tier.back(n), () -> model.back(n));
    }

    void check() {
        compare("check", "", tier::check, model::check);
    }

    void crash() {
        compare("crash", "", tier::crash, model::crash);
    }

    void lose() {
        compare("lose", "", tier::lose, model::lose);
    }

    void lookAtBlock(int b) {
        compare("origin", b, () -> tier.origin(b), () -> model.origin(b));
        compare("slot", b, () -> tier.slot(b), () -> model.slot(b));
        compare("dirty", b, () -> tier.dirty(b), () -> model.dirty(b));
    }

    void lookAtPlace(int k) {
        compare("order", k, () -> tier.order(k), () -> model.order(k));
        compare("noted", k, () -> tier.noted(k), () -> model.noted(k));
    }

    void lookAtFigure(int k) {
        compare("figure", k, () -> tier.figure(k), () -> model.figure(k));
    }

    private void compare(String call, Object argument, Supplier<Object> ofTier, Supplier<Object> ofModel) {
        calls++;
        Object got = outcome(ofTier);
        Object due = outcome(ofModel);
        if (!got.equals(due)) {
            Expect.same(name.get() + ", call " + calls + ": " + call + " " + argument, got, due);
        }
    }

    private static Object outcome(Supplier<Object> call) {
        try {
            return call.get();
        } catch (RuntimeException e) {
            return e.getClass();
        }
    }
}

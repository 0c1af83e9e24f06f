import java.util.ArrayList;
import java.util.HashSet;
import java.util.List;
import java.util.Set;
import java.util.function.Consumer;

/** Every state that a small tier can come to by calls with a few blocks and values, and every such call in it. */
public final class ReachableStatesTest {
    private static final int[] BLOCKS = {0, 1, 63};
    private static final int[] VALUES = {0, 1};

    private record Call(String name, Consumer<Pair> on) {
    }

    private final int slots;
    private final List<Call> calls = new ArrayList<>();
    private final Set<String> seen = new HashSet<>();
    // For each state one way to it: a state cannot be copied, so it is come to anew for each call.
    private final List<List<Call>> ways = new ArrayList<>();

    private ReachableStatesTest(int slots) {
        this.slots = slots;
        addCallsWithABlock();
        for (int i = 0; i <= 2; i++) {
            int n = i;
            calls.add(new Call("mode " + n, x -> x.mode(n)));
            calls.add(new Call("back " + n, x -> x.back(n)));
        }
        calls.add(new Call("check", Pair::check));
        calls.add(new Call("crash", Pair::crash));
        calls.add(new Call("lose", Pair::lose));
    }

    private void addCallsWithABlock() {
        for (int b : BLOCKS) {
            calls.add(new Call("read " + b, x -> x.read(b)));
            for (int v : VALUES) {
                calls.add(new Call("write " + b + " " + v, x -> x.write(b, v)));
                for (int i = 0; i <= 2; i++) {
                    int n = i;
                    calls.add(new Call("cut " + b + " " + v + " " + n, x -> x.cut(b, v, n)));
                }
            }
        }
    }

    public static void main(String[] args) {
        new ReachableStatesTest(1).go();
        new ReachableStatesTest(2).go();
        Expect.end();
    }

    private void go() {
        ways.add(List.of());
        seen.add(new Model(slots).state());
        // The first way that goes wrong is a shortest one; those behind it would only tell the same.
        for (int i = 0; i < ways.size() && !Expect.anyWrong(); i++) {
            for (Call call : calls) {
                tryAfter(ways.get(i), call);
            }
        }
        System.out.println("S = " + slots + ": " + ways.size() + " states, " + calls.size() + " calls in each");
    }

    private void tryAfter(List<Call> way, Call call) {
        List<Call> further = new ArrayList<>(way);
        further.add(call);
        Pair pair = new Pair(slots, () -> "S = " + slots + ", " + further.stream().map(Call::name).toList());
        for (Call c : further) {
            c.on().accept(pair);
        }
        lookAtAll(pair);
        if (seen.add(pair.state())) {
            ways.add(further);
        }
    }

    private void lookAtAll(Pair pair) {
        for (int b : BLOCKS) {
            pair.lookAtBlock(b);
        }
        for (int k = 0; k <= slots; k++) {
            pair.lookAtPlace(k);
        }
        for (int k = 0; k <= 7; k++) {
            pair.lookAtFigure(k);
        }
    }
}

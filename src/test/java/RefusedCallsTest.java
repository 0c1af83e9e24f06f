import java.util.ArrayList;
import java.util.List;
import java.util.NoSuchElementException;
import java.util.function.Consumer;
import java.util.function.Supplier;

/** Calls that the document refuses, in many states: the exception that it names, no other, and nothing changes. */
public final class RefusedCallsTest {
    private static final int BACK = 0;
    private static final int THROUGH = 1;
    private static final int PAST = 2;
    // One below and one above what is allowed, further off, and the ends of int.
    private static final int[] NO_BLOCKS = {-1, 64, -2, -64, 65, 128, Integer.MIN_VALUE, Integer.MAX_VALUE};

    private record State(String name, int slots, Supplier<WriteBackTier> maker) {
    }

    private RefusedCallsTest() {
    }

    public static void main(String[] args) {
        for (State state : states()) {
            noSuchBlock(state);
            noSuchNumberOfSteps(state);
            noCutInAnotherMode(state);
            noSuchMode(state);
            noSuchNumberOfSlotsToWriteBack(state);
            notCached(state);
            noSuchPlaceInTheOrder(state);
            noSuchSlot(state);
            noSuchFigure(state);
        }
        anIllegalArgumentComesBeforeTheMode();
        Expect.end();
    }

    private static List<State> states() {
        List<State> all = new ArrayList<>();
        for (int slots : new int[] {1, 6, 12}) {
            int[] blocks = Given.blocks(64 - slots, slots);
            all.add(new State("new", slots, () -> new WriteBackTier(slots)));
            all.add(new State("all dirty", slots, () -> Given.written(slots, blocks)));
            all.add(new State("all clean, noted empty", slots, () -> Given.readIn(slots, blocks)));
            all.add(new State("stopped", slots, () -> after(Given.written(slots, blocks), WriteBackTier::crash)));
            all.add(new State("lost", slots, () -> after(Given.written(slots, blocks), WriteBackTier::lose)));
            all.add(new State("hand at its end", slots, () -> after(Given.written(slots, blocks), x -> {
                x.back(12);
                x.write(63, 1L);
            })));
            for (int m : new int[] {THROUGH, PAST}) {
                all.add(new State("new, mode " + m, slots, () -> after(new WriteBackTier(slots), x -> x.mode(m))));
                all.add(new State("full, mode " + m, slots, () -> after(Given.written(slots, blocks), x -> x.mode(m))));
            }
        }
        all.add(new State("partly full", 6, () -> after(Given.written(6, 9, 0, 63), x -> {
            x.back(1);
            x.read(30);
            x.read(0);
        })));
        all.add(new State("made with no such number of slots", 6, () -> Given.written(13, 1, 2)));
        return all;
    }

    private static WriteBackTier after(WriteBackTier x, Consumer<WriteBackTier> calls) {
        calls.accept(x);
        return x;
    }

    /** A second object in the same state, without the refused call, must look the same afterwards. */
    private static void refused(State state, String call, Class<? extends RuntimeException> kind,
            Consumer<WriteBackTier> refusedCall) {
        WriteBackTier x = state.maker().get();
        WriteBackTier twin = state.maker().get();
        String what = call + " (" + state.name() + ", " + state.slots() + " slots)";
        Expect.fails(what, kind, () -> refusedCall.accept(x));
        Expect.same(what + " changes nothing", Look.all(x), Look.all(twin));
        Expect.same(what + " changes no value", Look.values(x), Look.values(twin));
    }

    private static void noSuchBlock(State state) {
        Expect.about("In all calls, illegal argument: there is no such block.");
        for (int b : NO_BLOCKS) {
            refused(state, "read " + b, IllegalArgumentException.class, x -> x.read(b));
            refused(state, "write " + b, IllegalArgumentException.class, x -> x.write(b, 1L));
            refused(state, "cut " + b, IllegalArgumentException.class, x -> x.cut(b, 1L, 2));
            refused(state, "cut " + b + " with no step", IllegalArgumentException.class, x -> x.cut(b, 1L, 0));
            refused(state, "slot " + b, IllegalArgumentException.class, x -> x.slot(b));
            refused(state, "dirty " + b, IllegalArgumentException.class, x -> x.dirty(b));
            refused(state, "origin " + b, IllegalArgumentException.class, x -> x.origin(b));
        }
    }

    private static void noSuchNumberOfSteps(State state) {
        Expect.about("Illegal argument: also if n is not 0 .. 2");
        for (int n : new int[] {-1, 3, 4, Integer.MIN_VALUE, Integer.MAX_VALUE}) {
            refused(state, "cut of block 63, n " + n, IllegalArgumentException.class, x -> x.cut(63, 1L, n));
            refused(state, "cut of block 5, n " + n, IllegalArgumentException.class, x -> x.cut(5, 1L, n));
        }
    }

    private static void noCutInAnotherMode(State state) {
        Expect.about("illegal state: the mode is not BACK");
        if (state.maker().get().figure(6) == BACK) {
            return;
        }
        for (int n = 0; n <= 2; n++) {
            int steps = n;
            refused(state, "cut of block 63, n " + n, IllegalStateException.class, x -> x.cut(63, 1L, steps));
            refused(state, "cut of block 0, n " + n, IllegalStateException.class, x -> x.cut(0, 1L, steps));
        }
    }

    private static void noSuchMode(State state) {
        Expect.about("Illegal argument: it is none.");
        for (int m : new int[] {-1, 3, 4, Integer.MIN_VALUE, Integer.MAX_VALUE}) {
            refused(state, "mode " + m, IllegalArgumentException.class, x -> x.mode(m));
        }
    }

    private static void noSuchNumberOfSlotsToWriteBack(State state) {
        Expect.about("Illegal argument: n is not 0 .. 12.");
        for (int n : new int[] {-1, 13, 14, 64, Integer.MIN_VALUE, Integer.MAX_VALUE}) {
            refused(state, "back " + n, IllegalArgumentException.class, x -> x.back(n));
        }
    }

    private static void notCached(State state) {
        Expect.about("no such element: it is not cached");
        WriteBackTier seen = state.maker().get();
        for (int b = 0; b < Look.BLOCKS; b++) {
            int block = b;
            if (seen.slot(b) == -1) {
                refused(state, "dirty " + b, NoSuchElementException.class, x -> x.dirty(block));
            }
        }
    }

    private static void noSuchPlaceInTheOrder(State state) {
        Expect.about("Index out of bounds: there is none.");
        int full = state.maker().get().figure(4);
        for (int k : new int[] {-1, full, full + 1, 12, 64, Integer.MIN_VALUE, Integer.MAX_VALUE}) {
            refused(state, "order " + k, IndexOutOfBoundsException.class, x -> x.order(k));
        }
    }

    private static void noSuchSlot(State state) {
        Expect.about("Index out of bounds: there is no such slot.");
        for (int s : new int[] {-1, state.slots(), state.slots() + 1, 12, 64, Integer.MIN_VALUE, Integer.MAX_VALUE}) {
            refused(state, "noted " + s, IndexOutOfBoundsException.class, x -> x.noted(s));
        }
    }

    private static void noSuchFigure(State state) {
        Expect.about("Illegal argument: k is none of these.");
        for (int k : new int[] {-1, 8, 9, Integer.MIN_VALUE, Integer.MAX_VALUE}) {
            refused(state, "figure " + k, IllegalArgumentException.class, x -> x.figure(k));
        }
    }

    /** The document leaves open which goes first; the illegal argument is the one that it names first. */
    private static void anIllegalArgumentComesBeforeTheMode() {
        Expect.about("Illegal argument: also if n is not 0 .. 2; illegal state: the mode is not BACK.");
        for (int m : new int[] {THROUGH, PAST}) {
            State state = new State("mode " + m, 2, () -> after(Given.written(2, 1), x -> x.mode(m)));
            refused(state, "cut of block 64", IllegalArgumentException.class, x -> x.cut(64, 1L, 1));
            refused(state, "cut with n 3", IllegalArgumentException.class, x -> x.cut(1, 1L, 3));
            refused(state, "cut of block -1 with n -1", IllegalArgumentException.class, x -> x.cut(-1, 1L, -1));
        }
    }
}

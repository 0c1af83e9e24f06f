import java.util.ArrayList;
import java.util.LinkedList;
import java.util.List;
import java.util.NoSuchElementException;
import java.util.TreeMap;

/** The document told a second time, with lists and maps, as near to its words as can be. */
final class Model {
    private record Note(boolean empty, int block, boolean dirty) {
        static final Note OF_EMPTY = new Note(true, 0, false);
    }

    private static final class Slot {
        Note so = Note.OF_EMPTY;
        Note noted = Note.OF_EMPTY;
        long value;
    }

    private final List<Slot> slots = new ArrayList<>();
    private final LinkedList<Slot> order = new LinkedList<>();
    private final TreeMap<Integer, Long> origin = new TreeMap<>();
    private String mode = "BACK";
    private int hand;
    private int hits;
    private int misses;
    private int originGot;
    private int notings;

    Model(int count) {
        int size = count < 1 || count > 12 ? 6 : count;
        while (slots.size() < size) {
            slots.add(new Slot());
        }
    }

    /** All that answers and changes to come depend on; the figures that only count are left out. */
    String state() {
        StringBuilder text = new StringBuilder(mode + hand);
        origin.forEach((b, v) -> text.append(v == 0 ? "" : " " + b + "=" + v));
        for (Slot s : slots) {
            text.append(s.so).append(s.noted).append(s.so.empty ? "" : s.value).append(order.indexOf(s));
        }
        return text.toString();
    }

    long read(int b) {
        block(b);
        Slot s = cached(b);
        if (s != null) {
            hits++;
            use(s);
            return s.value;
        }
        misses++;
        long value = origin(b);
        if (!mode.equals("PAST")) {
            s = room();
            s.so = new Note(false, b, false);
            s.value = value;
            use(s);
        }
        return value;
    }

    void write(int b, long v) {
        block(b);
        if (mode.equals("BACK")) {
            List<Runnable> steps = steps(b, v);
            steps.forEach(Runnable::run);
            use(cached(b));
            return;
        }
        setOrigin(b, v);
        Slot s = cached(b);
        if (s == null) {
            return;
        }
        if (mode.equals("PAST")) {
            empty(s);
            return;
        }
        s.value = v;
        s.so = new Note(false, b, false);
        if (s.noted.dirty) {
            note(s);
        }
        use(s);
    }

    int cut(int b, long v, int n) {
        block(b);
        legal(n >= 0 && n <= 2);
        if (!mode.equals("BACK")) {
            throw new IllegalStateException();
        }
        List<Runnable> steps = steps(b, v);
        int done = Math.min(n, steps.size());
        steps.subList(0, done).forEach(Runnable::run);
        stop();
        return done;
    }

    int mode(int m) {
        legal(m >= 0 && m <= 2);
        mode = List.of("BACK", "THROUGH", "PAST").get(m);
        int count = 0;
        if (m != 0) {
            for (Slot s : slots) {
                if (s.so.dirty) {
                    writeBack(s);
                    count++;
                }
            }
        }
        return count;
    }

    int back(int n) {
        legal(n >= 0 && n <= 12);
        int count = 0;
        while (count < n && figure(5) > 0) {
            TreeMap<Integer, Slot> dirty = new TreeMap<>();
            slots.stream().filter(s -> s.so.dirty).forEach(s -> dirty.put(s.so.block, s));
            Integer next = dirty.ceilingKey(hand);
            if (next == null) {
                next = dirty.firstKey();
            }
            writeBack(dirty.get(next));
            hand = next + 1;
            count++;
        }
        return count;
    }

    int check() {
        List<Slot> other = slots.stream().filter(s -> !s.so.equals(s.noted)).toList();
        other.forEach(this::note);
        return other.size();
    }

    int crash() {
        stop();
        return figure(4);
    }

    int lose() {
        int dirty = figure(5);
        stop();
        order.clear();
        for (Slot s : slots) {
            s.so = Note.OF_EMPTY;
            s.noted = Note.OF_EMPTY;
        }
        return dirty;
    }

    int slot(int b) {
        block(b);
        return slots.indexOf(cached(b));
    }

    boolean dirty(int b) {
        block(b);
        Slot s = cached(b);
        if (s == null) {
            throw new NoSuchElementException();
        }
        return s.so.dirty;
    }

    long origin(int b) {
        block(b);
        return origin.getOrDefault(b, 0L);
    }

    int order(int k) {
        if (k < 0 || k >= order.size()) {
            throw new IndexOutOfBoundsException();
        }
        return order.get(k).so.block;
    }

    int noted(int slot) {
        if (slot < 0 || slot >= slots.size()) {
            throw new IndexOutOfBoundsException();
        }
        Note n = slots.get(slot).noted;
        return n.empty ? -1 : 2 * n.block + (n.dirty ? 1 : 0);
    }

    int figure(int k) {
        legal(k >= 0 && k <= 7);
        int full = (int) slots.stream().filter(s -> !s.so.empty).count();
        int dirty = (int) slots.stream().filter(s -> s.so.dirty).count();
        int modeNumber = List.of("BACK", "THROUGH", "PAST").indexOf(mode);
        return List.of(hits, misses, originGot, notings, full, dirty, modeNumber, hand).get(k);
    }

    private static void legal(boolean so) {
        if (!so) {
            throw new IllegalArgumentException();
        }
    }

    private static void block(int b) {
        legal(b >= 0 && b <= 63);
    }

    private Slot cached(int b) {
        return slots.stream().filter(s -> !s.so.empty && s.so.block == b).findFirst().orElse(null);
    }

    private void use(Slot s) {
        order.remove(s);
        order.addFirst(s);
    }

    private void note(Slot s) {
        s.noted = s.so;
        notings++;
    }

    private void setOrigin(int b, long v) {
        origin.put(b, v);
        originGot++;
    }

    private void writeBack(Slot s) {
        setOrigin(s.so.block, s.value);
        s.so = new Note(false, s.so.block, false);
        if (s.noted.dirty) {
            note(s);
        }
    }

    private void empty(Slot s) {
        s.so = Note.OF_EMPTY;
        order.remove(s);
        if (!s.noted.empty) {
            note(s);
        }
    }

    private Slot room() {
        for (Slot s : slots) {
            if (s.so.empty) {
                return s;
            }
        }
        Slot last = order.getLast();
        if (last.so.dirty) {
            writeBack(last);
        }
        empty(last);
        return last;
    }

    /** Finds room, where it must be found, and tells the steps that are to come. */
    private List<Runnable> steps(int b, long v) {
        Note due = new Note(false, b, true);
        Slot old = cached(b);
        Slot s = old == null ? room() : old;
        Runnable getValue = () -> s.value = v;
        if (old == null) {
            return List.of(() -> {
                s.so = due;
                s.value = v;
            }, () -> note(s));
        }
        if (s.noted.equals(due)) {
            return List.of(getValue);
        }
        return List.of(() -> {
            s.so = due;
            note(s);
        }, getValue);
    }

    private void stop() {
        order.clear();
        for (Slot s : slots) {
            s.so = s.noted;
            if (!s.so.empty) {
                order.addLast(s);
            }
        }
        mode = "BACK";
        hand = 0;
    }
}

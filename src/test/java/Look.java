import java.util.NoSuchElementException;
import java.util.StringJoiner;
import java.util.function.IntUnaryOperator;

/** What can be seen of a WriteBackTier, as texts that are easy to compare. */
final class Look {
    static final int BLOCKS = 64;

    private Look() {
    }

    /** The blocks of the order, the one used last first. */
    static String order(WriteBackTier x) {
        return untilOutOfBounds(x::order);
    }

    /** What is noted of all slots, by their numbers. */
    static String noted(WriteBackTier x) {
        return untilOutOfBounds(x::noted);
    }

    private static String untilOutOfBounds(IntUnaryOperator row) {
        StringJoiner text = new StringJoiner(" ");
        try {
            for (int k = 0; k <= BLOCKS; k++) {
                text.add(Integer.toString(row.applyAsInt(k)));
            }
        } catch (IndexOutOfBoundsException e) {
            return text.toString();
        }
        return text + " and no end";
    }

    static String figures(WriteBackTier x) {
        StringJoiner text = new StringJoiner(" ");
        for (int k = 0; k <= 7; k++) {
            text.add(Integer.toString(x.figure(k)));
        }
        return text.toString();
    }

    /** "-" for a block that is not cached, else its slot and, if dirty, a star. */
    static String block(WriteBackTier x, int b) {
        int s = x.slot(b);
        try {
            return s + (x.dirty(b) ? "*" : "");
        } catch (NoSuchElementException e) {
            return s == -1 ? "-" : s + " but not cached";
        }
    }

    /** The values of all blocks that are cached, by their numbers. They are read, so the order and the hits change. */
    static String values(WriteBackTier x) {
        StringJoiner text = new StringJoiner(" ");
        for (int b = 0; b < BLOCKS; b++) {
            if (x.slot(b) != -1) {
                text.add(b + "=" + x.read(b));
            }
        }
        return text.toString();
    }

    /** All that can be seen without changing anything, in at most 240 calls. */
    static String all(WriteBackTier x) {
        StringBuilder text = new StringBuilder();
        for (int b = 0; b < BLOCKS; b++) {
            text.append(block(x, b)).append('=').append(x.origin(b)).append(' ');
        }
        text.append("| order ").append(order(x));
        text.append(" | noted ").append(noted(x));
        text.append(" | figures ").append(figures(x));
        return text.toString();
    }
}

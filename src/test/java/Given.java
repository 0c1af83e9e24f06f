/** Tiers in the state that a test begins with. */
final class Given {
    private Given() {
    }

    /** A dirty slot, noted so, for each block, written in this order; block b has the value 10 * b. */
    static WriteBackTier written(int slots, int... blocks) {
        WriteBackTier x = new WriteBackTier(slots);
        for (int b : blocks) {
            x.write(b, 10L * b);
        }
        return x;
    }

    /** A clean slot, noted to be empty, for each block, read in this order; each has the value 0. */
    static WriteBackTier readIn(int slots, int... blocks) {
        WriteBackTier x = new WriteBackTier(slots);
        for (int b : blocks) {
            x.read(b);
        }
        return x;
    }

    /** A clean slot, noted so, for each block, used in this order; block b has the value 10 * b. */
    static WriteBackTier writtenBack(int slots, int... blocks) {
        WriteBackTier x = written(slots, blocks);
        x.mode(1);
        x.mode(0);
        return x;
    }

    static int[] blocks(int first, int count) {
        int[] row = new int[count];
        for (int i = 0; i < count; i++) {
            row[i] = first + i;
        }
        return row;
    }
}

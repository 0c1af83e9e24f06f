import java.util.Arrays;
import java.util.NoSuchElementException;

/** A fast disk (the cache) in front of a slow one (the origin), and what is noted of it for the time after a stop. */
public final class WriteBackTier {
    private static final int BLOCKS = 64;
    private static final int MOST_SLOTS = 12;
    private static final int USUAL_SLOTS = 6;
    private static final int MOST_STEPS = 2;
    private static final int MOST_BACK = 12;

    private static final int BACK = 0;
    private static final int THROUGH = 1;
    private static final int PAST = 2;

    private static final int EMPTY = -1;
    private static final int NO_SLOT = -1;

    private final int slotCount;
    private final long[] originValues;
    private final long[] slotValues;
    // What is so of a slot is held in the same form as what is noted of it (the form that noted() answers),
    // so that noting and stopping are plain copies.
    private final int[] contents;
    private final int[] notes;
    // The order is held as the time of each slot's last use: a slot that becomes empty leaves it by itself.
    private final int[] lastUses;
    private int uses;
    private int currentMode;
    private int hand;
    private int hits;
    private int misses;
    private int originWrites;
    private int notings;

    public WriteBackTier(int slots) {
        slotCount = slots >= 1 && slots <= MOST_SLOTS ? slots : USUAL_SLOTS;
        originValues = new long[BLOCKS];
        slotValues = new long[slotCount];
        contents = new int[slotCount];
        notes = new int[slotCount];
        lastUses = new int[slotCount];
        Arrays.fill(contents, EMPTY);
        Arrays.fill(notes, EMPTY);
    }

    public long read(int b) throws IllegalArgumentException {
        requireBlock(b);
        int s = slotWith(b);
        if (s != NO_SLOT) {
            hits++;
            useSlot(s);
            return slotValues[s];
        }
        misses++;
        if (currentMode != PAST) {
            keepClean(findRoom(), b);
        }
        return originValues[b];
    }

    public void write(int b, long v) throws IllegalArgumentException {
        requireBlock(b);
        if (currentMode == THROUGH) {
            writeThrough(b, v);
        } else if (currentMode == PAST) {
            writePast(b, v);
        } else {
            writeInSteps(b, v, MOST_STEPS);
        }
    }

    public int cut(int b, long v, int n) throws IllegalArgumentException, IllegalStateException {
        requireBlock(b);
        if (n < 0 || n > MOST_STEPS) {
            throw new IllegalArgumentException("no such number of steps");
        }
        if (currentMode != BACK) {
            throw new IllegalStateException("the mode is not BACK");
        }
        int done = writeInSteps(b, v, n);
        stopMachine();
        return done;
    }

    public int mode(int m) throws IllegalArgumentException {
        if (m != BACK && m != THROUGH && m != PAST) {
            throw new IllegalArgumentException("no such mode");
        }
        currentMode = m;
        return m == BACK ? 0 : writeAllBack();
    }

    public int back(int n) throws IllegalArgumentException {
        if (n < 0 || n > MOST_BACK) {
            throw new IllegalArgumentException("no such number of slots");
        }
        for (int done = 0; done < n; done++) {
            int s = nextForHand();
            if (s == NO_SLOT) {
                return done;
            }
            writeBackIfDirty(s);
            hand = blockOf(contents[s]) + 1;
        }
        return n;
    }

    public int check() {
        int count = 0;
        for (int s = 0; s < slotCount; s++) {
            if (notes[s] != contents[s]) {
                noteSlot(s);
                count++;
            }
        }
        return count;
    }

    public int crash() {
        stopMachine();
        return countFull();
    }

    public int lose() {
        int lost = countDirty();
        // The notes go first, so that the stop itself leaves every slot empty.
        Arrays.fill(notes, EMPTY);
        stopMachine();
        return lost;
    }

    public int slot(int b) throws IllegalArgumentException {
        requireBlock(b);
        return slotWith(b);
    }

    public boolean dirty(int b) throws IllegalArgumentException, NoSuchElementException {
        requireBlock(b);
        int s = slotWith(b);
        if (s == NO_SLOT) {
            throw new NoSuchElementException("the block is not cached");
        }
        return isDirty(contents[s]);
    }

    public long origin(int b) throws IllegalArgumentException {
        requireBlock(b);
        return originValues[b];
    }

    public int order(int k) throws IndexOutOfBoundsException {
        for (int s = 0; s < slotCount; s++) {
            if (contents[s] != EMPTY && countUsedAfter(s) == k) {
                return blockOf(contents[s]);
            }
        }
        throw new IndexOutOfBoundsException("no such place in the order");
    }

    public int noted(int slot) throws IndexOutOfBoundsException {
        if (slot < 0 || slot >= slotCount) {
            throw new IndexOutOfBoundsException("no such slot");
        }
        return notes[slot];
    }

    public int figure(int k) throws IllegalArgumentException {
        switch (k) {
            case 0:
                return hits;
            case 1:
                return misses;
            case 2:
                return originWrites;
            case 3:
                return notings;
            case 4:
                return countFull();
            case 5:
                return countDirty();
            case 6:
                return currentMode;
            case 7:
                return hand;
            default:
                throw new IllegalArgumentException("no such figure");
        }
    }

    private static void requireBlock(int b) throws IllegalArgumentException {
        if (b < 0 || b >= BLOCKS) {
            throw new IllegalArgumentException("no such block");
        }
    }

    private static int cleanForm(int block) {
        return 2 * block;
    }

    private static int dirtyForm(int block) {
        return 2 * block + 1;
    }

    private static int blockOf(int form) {
        return form >> 1;
    }

    // EMPTY is odd too, so the last bit alone does not tell.
    private static boolean isDirty(int form) {
        return form != EMPTY && (form & 1) == 1;
    }

    private int slotWith(int b) {
        for (int s = 0; s < slotCount; s++) {
            if (contents[s] != EMPTY && blockOf(contents[s]) == b) {
                return s;
            }
        }
        return NO_SLOT;
    }

    private void useSlot(int s) {
        uses++;
        lastUses[s] = uses;
    }

    private void noteSlot(int s) {
        notes[s] = contents[s];
        notings++;
    }

    private void giveOrigin(int b, long v) {
        originValues[b] = v;
        originWrites++;
    }

    private void makeClean(int s) {
        contents[s] = cleanForm(blockOf(contents[s]));
        if (isDirty(notes[s])) {
            noteSlot(s);
        }
    }

    private void makeEmpty(int s) {
        contents[s] = EMPTY;
        if (notes[s] != EMPTY) {
            noteSlot(s);
        }
    }

    private boolean writeBackIfDirty(int s) {
        if (!isDirty(contents[s])) {
            return false;
        }
        giveOrigin(blockOf(contents[s]), slotValues[s]);
        makeClean(s);
        return true;
    }

    private int writeAllBack() {
        int count = 0;
        for (int s = 0; s < slotCount; s++) {
            if (writeBackIfDirty(s)) {
                count++;
            }
        }
        return count;
    }

    private int findRoom() {
        int longestUnused = 0;
        for (int s = 0; s < slotCount; s++) {
            if (contents[s] == EMPTY) {
                return s;
            }
            if (lastUses[s] < lastUses[longestUnused]) {
                longestUnused = s;
            }
        }
        writeBackIfDirty(longestUnused);
        makeEmpty(longestUnused);
        return longestUnused;
    }

    private void keepClean(int s, int b) {
        contents[s] = cleanForm(b);
        slotValues[s] = originValues[b];
        useSlot(s);
    }

    private void writeThrough(int b, long v) {
        giveOrigin(b, v);
        int s = slotWith(b);
        if (s != NO_SLOT) {
            slotValues[s] = v;
            makeClean(s);
            useSlot(s);
        }
    }

    private void writePast(int b, long v) {
        giveOrigin(b, v);
        int s = slotWith(b);
        if (s != NO_SLOT) {
            makeEmpty(s);
        }
    }

    /** Writes in the mode BACK, at most so many steps of it, and answers how many were done. */
    private int writeInSteps(int b, long v, int most) {
        int s = slotWith(b);
        int done;
        if (s == NO_SLOT) {
            s = findRoom();
            done = fillInSteps(s, b, v, most);
        } else if (notes[s] == dirtyForm(b)) {
            done = overwriteDirty(s, b, v, most);
        } else {
            done = overwriteClean(s, b, v, most);
        }
        // After too few steps the use does no harm: the machine stops then, and the order is made anew.
        useSlot(s);
        return done;
    }

    private int fillInSteps(int s, int b, long v, int most) {
        if (most < 1) {
            return 0;
        }
        contents[s] = dirtyForm(b);
        slotValues[s] = v;
        if (most < 2) {
            return 1;
        }
        noteSlot(s);
        return 2;
    }

    private int overwriteDirty(int s, int b, long v, int most) {
        if (most < 1) {
            return 0;
        }
        contents[s] = dirtyForm(b);
        slotValues[s] = v;
        return 1;
    }

    private int overwriteClean(int s, int b, long v, int most) {
        if (most < 1) {
            return 0;
        }
        contents[s] = dirtyForm(b);
        noteSlot(s);
        if (most < 2) {
            return 1;
        }
        slotValues[s] = v;
        return 2;
    }

    private void stopMachine() {
        for (int s = 0; s < slotCount; s++) {
            contents[s] = notes[s];
            // The lower the number, the later the use: that is the order by the slots' numbers.
            // None of these is above 0, so every use to come is later.
            lastUses[s] = -s;
        }
        currentMode = BACK;
        hand = 0;
    }

    private int nextForHand() {
        int s = leastDirtyFrom(hand);
        return s != NO_SLOT ? s : leastDirtyFrom(0);
    }

    private int leastDirtyFrom(int lowest) {
        int least = NO_SLOT;
        int leastBlock = BLOCKS;
        for (int s = 0; s < slotCount; s++) {
            int block = blockOf(contents[s]);
            if (isDirty(contents[s]) && block >= lowest && block < leastBlock) {
                least = s;
                leastBlock = block;
            }
        }
        return least;
    }

    private int countUsedAfter(int s) {
        int count = 0;
        for (int other = 0; other < slotCount; other++) {
            if (contents[other] != EMPTY && lastUses[other] > lastUses[s]) {
                count++;
            }
        }
        return count;
    }

    private int countFull() {
        int count = 0;
        for (int s = 0; s < slotCount; s++) {
            if (contents[s] != EMPTY) {
                count++;
            }
        }
        return count;
    }

    private int countDirty() {
        int count = 0;
        for (int s = 0; s < slotCount; s++) {
            if (isDirty(contents[s])) {
                count++;
            }
        }
        return count;
    }
}

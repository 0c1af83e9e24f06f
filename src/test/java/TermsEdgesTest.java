/** The boundary cases that the document's "Terms" name, sentence by sentence; the refused calls are in RefusedCallsTest. */
public final class TermsEdgesTest {
    private static final int BACK = 0;
    private static final int THROUGH = 1;
    private static final int PAST = 2;

    private TermsEdgesTest() {
    }

    public static void main(String[] args) {
        atMost512Calls();
        firstAndLastBlock();
        eachBlockHasItsOwnOrigin();
        originTakesEveryLong();
        slotsAreEmptyAtFirst();
        oneSlotAtMostHasABlock();
        notedMayBeOtherThanSo();
        orderOfAnEmptyAndAFullCache();
        usedLastComesFirst();
        lookingIsNoUse();
        modeIsBackAtFirst();
        writingBackNotesOnce();
        roomIsTheFirstEmptySlot();
        roomIsTheLastOfTheOrder();
        roomIsWrittenBackIfDirty();
        roomIsNotedIfNotNotedEmpty();
        readingAHit();
        readingAMiss();
        readingAMissInPast();
        writingThroughWhatIsNotCached();
        writingThroughWhatIsCached();
        writingPastWhatIsNotCached();
        writingPastWhatIsCached();
        writingBackWhatIsNotCached();
        writingBackWhatIsNotedDirty();
        writingBackOtherwise();
        stoppedSlotsAreWhatIsNoted();
        stoppedSlotsKeepTheirValue();
        stoppedOrderIsThatOfTheNumbers();
        stoppedModeIsBack();
        Expect.end();
    }

    private static void atMost512Calls() {
        Expect.about("An object is used for at most 512 calls after it has been made");
        WriteBackTier x = new WriteBackTier(12);
        for (int call = 0; call < 511; call++) {
            x.write(call % 64, call);
        }
        Expect.same("the 512th call", x.figure(3), 511 + 2 * (511 - 12));
        WriteBackTier y = new WriteBackTier(1);
        for (int call = 0; call < 511; call++) {
            y.read(63);
        }
        Expect.same("the 512th call of a row of hits", y.figure(0), 510);
        WriteBackTier z = Given.written(2, 7);
        for (int call = 0; call < 510; call++) {
            z.crash();
        }
        Expect.same("the 512th call after 510 stops", z.read(7), 70L);
    }

    private static void firstAndLastBlock() {
        Expect.about("BLOCKS are 0 .. 63.");
        for (int b : new int[] {0, 63}) {
            WriteBackTier x = new WriteBackTier(1);
            Expect.same("origin of " + b, x.origin(b), 0L);
            Expect.same("read of " + b, x.read(b), 0L);
            x.write(b, 5L);
            Expect.same("cut of " + b, x.cut(b, 6L, 2), 1);
            Expect.same("slot of " + b, x.slot(b), 0);
            Expect.same("dirty of " + b, x.dirty(b), true);
            Expect.same("order with " + b, x.order(0), b);
            Expect.same("back of " + b, x.back(1), 1);
            Expect.same("origin of " + b + " then", x.origin(b), 6L);
            x.mode(THROUGH);
            x.write(b, 7L);
            Expect.same("THROUGH to " + b, x.read(b) + x.origin(b), 14L);
            x.mode(PAST);
            x.write(b, 8L);
            Expect.same("PAST to " + b, x.read(b) + " " + x.slot(b), "8 -1");
        }
    }

    private static void eachBlockHasItsOwnOrigin() {
        Expect.about("The ORIGIN has a value (a long) for each, 0 at first.");
        WriteBackTier x = new WriteBackTier(12);
        for (int b = 0; b < 64; b++) {
            Expect.same("origin of " + b + " at first", x.origin(b), 0L);
        }
        for (int b = 0; b < 64; b++) {
            x.write(b, 1000L + b);
        }
        x.mode(THROUGH);
        for (int b = 0; b < 64; b++) {
            Expect.same("origin of " + b, x.origin(b), 1000L + b);
        }
    }

    private static void originTakesEveryLong() {
        Expect.about("The ORIGIN has a value (a long)");
        for (long v : new long[] {Long.MIN_VALUE, Long.MAX_VALUE, -1L, 1L << 32, Integer.MIN_VALUE - 1L}) {
            WriteBackTier x = new WriteBackTier(1);
            x.write(1, v);
            Expect.same("in the slot", x.read(1), v);
            x.back(1);
            Expect.same("by back", x.origin(1), v);
            x.write(2, v);
            x.read(3);
            Expect.same("by finding room", x.origin(2), v);
            Expect.same("a miss", x.read(2), v);
            Expect.same("the slot after the miss", x.read(2), v);
            x.cut(4, v, 2);
            x.mode(THROUGH);
            Expect.same("by mode, after a cut", x.origin(4), v);
            x.write(5, v);
            Expect.same("THROUGH", x.origin(5), v);
            x.mode(PAST);
            x.write(6, v);
            Expect.same("PAST", x.origin(6), v);
        }
    }

    private static void slotsAreEmptyAtFirst() {
        Expect.about("The CACHE has S SLOTS 0, 1, .., each EMPTY at first");
        for (int slots = 1; slots <= 12; slots++) {
            WriteBackTier x = new WriteBackTier(slots);
            Expect.same("full ones of " + slots, x.figure(4), 0);
            Expect.same("dirty ones of " + slots, x.figure(5), 0);
            for (int b = 0; b < slots; b++) {
                Expect.same("block " + b + " at first", Look.block(x, b), "-");
                x.read(b);
                Expect.same("slot of the next, of " + slots, x.slot(b), b);
            }
            x.read(63);
            Expect.same("one more than " + slots, x.slot(63) + " " + x.slot(0) + " " + x.figure(4), "0 -1 " + slots);
        }
    }

    private static void oneSlotAtMostHasABlock() {
        Expect.about("a block is CACHED if a slot has it, and one at most has it");
        WriteBackTier x = new WriteBackTier(3);
        x.read(5);
        x.write(5, 1L);
        x.read(5);
        x.write(5, 2L);
        Expect.same("one slot, though three are there", x.figure(4) + " " + x.slot(5), "1 0");
        x.cut(5, 3L, 2);
        x.read(5);
        Expect.same("one slot after a stop", x.figure(4) + " " + x.slot(5), "1 0");
        x.read(6);
        x.read(7);
        x.read(8);
        x.read(5);
        Expect.same("one slot when it has gone and come", Look.order(x), "5 8 7");
        x.check();
        x.crash();
        Expect.same("one slot after that and a stop", Look.order(x), "8 5 7");
    }

    private static void notedMayBeOtherThanSo() {
        Expect.about("Of each slot it is NOTED that it is empty, or that it has a block, clean or dirty;"
            + " that may be other than what is so.");
        WriteBackTier x = Given.readIn(2, 63, 0);
        Expect.same("noted empty, clean in truth", Look.noted(x) + " " + Look.block(x, 63), "-1 -1 0");
        x.check();
        Expect.same("noted clean", Look.noted(x), "126 0");
        x.write(63, 1L);
        Expect.same("noted dirty", Look.noted(x), "127 0");
    }

    private static void orderOfAnEmptyAndAFullCache() {
        Expect.about("THE ORDER is a row of all slots that are not empty");
        Expect.same("none", Look.order(new WriteBackTier(12)), "");
        Expect.same("one of one", Look.order(Given.written(1, 9)), "9");
        Expect.same("one of twelve", Look.order(Given.readIn(12, 9)), "9");
        Expect.same("eleven of twelve", Look.order(Given.readIn(12, Given.blocks(0, 11))), "10 9 8 7 6 5 4 3 2 1 0");
        Expect.same("twelve", Look.order(Given.readIn(12, Given.blocks(0, 12))), "11 10 9 8 7 6 5 4 3 2 1 0");
        Expect.same("twelve, after a thirteenth", Look.order(Given.readIn(12, Given.blocks(0, 13))),
            "12 11 10 9 8 7 6 5 4 3 2 1");
        WriteBackTier x = Given.writtenBack(3, 1, 2, 3);
        x.mode(PAST);
        x.write(2, 0L);
        Expect.same("without the one in the middle", Look.order(x), "3 1");
        x.write(3, 0L);
        Expect.same("without the first", Look.order(x), "1");
        x.write(1, 0L);
        Expect.same("none again", Look.order(x), "");
    }

    private static void usedLastComesFirst() {
        Expect.about("the one USED last comes first");
        WriteBackTier x = Given.readIn(3, 1, 2, 3);
        x.read(3);
        Expect.same("the first, used again", Look.order(x), "3 2 1");
        x.read(1);
        Expect.same("the last, used", Look.order(x), "1 3 2");
        x.write(3, 30L);
        Expect.same("the one between, used by a write", Look.order(x), "3 1 2");
    }

    private static void lookingIsNoUse() {
        Expect.about("THE ORDER is a row of all slots that are not empty: the one USED last comes first.");
        WriteBackTier x = Given.written(3, 1, 2, 3);
        x.slot(1);
        x.dirty(1);
        x.origin(1);
        x.order(2);
        x.noted(0);
        x.back(1);
        x.check();
        x.mode(BACK);
        x.mode(THROUGH);
        Expect.same("after calls that use no slot", Look.order(x), "3 2 1");
        Expect.same("and that are no hits or misses", x.figure(0) + x.figure(1), 0);
    }

    private static void modeIsBackAtFirst() {
        Expect.about("THE MODE is 0 BACK, 1 THROUGH, or 2 PAST; 0 at first.");
        WriteBackTier x = new WriteBackTier(2);
        Expect.same("at first", x.figure(6), 0);
        x.write(1, 10L);
        Expect.same("a write at first", Look.block(x, 1) + " " + x.origin(1), "0* 0");
        x.mode(1);
        x.write(1, 11L);
        x.write(2, 22L);
        Expect.same("a write in 1", Look.order(x) + " " + x.origin(1) + " " + x.origin(2), "1 11 22");
        x.mode(2);
        x.write(1, 12L);
        Expect.same("a write in 2", Look.order(x) + " " + x.origin(1), " 12");
        x.mode(0);
        x.write(1, 13L);
        Expect.same("a write in 0", Look.block(x, 1) + " " + x.origin(1), "0* 12");
    }

    private static void writingBackNotesOnce() {
        Expect.about("TO WRITE a slot BACK: its value becomes the origin's for its block, the slot is clean,"
            + " and then it is noted, if it was noted to be dirty.");
        WriteBackTier x = Given.written(2, 63, 0);
        x.back(1);
        Expect.same("the one", Look.block(x, 0) + " " + x.noted(1), "1 0");
        Expect.same("the other", Look.block(x, 63) + " " + x.noted(0), "0* 127");
        Expect.same("noted once more than by the writes", x.figure(3), 3);
        x.back(1);
        Expect.same("the other then", Look.block(x, 63) + " " + x.noted(0) + " " + x.origin(63), "0 126 630");
        Expect.same("both stay, with their values", Look.values(x), "0=0 63=630");
        Expect.same("clean ones are not written back", x.back(12) + " " + x.figure(2) + " " + x.figure(3), "0 2 4");
    }

    private static void roomIsTheFirstEmptySlot() {
        Expect.about("TO FIND ROOM: the first slot (by number) that is empty");
        WriteBackTier x = Given.writtenBack(12, Given.blocks(0, 12));
        x.mode(PAST);
        for (int b : new int[] {11, 0, 5}) {
            x.write(b, 1L);
        }
        x.mode(BACK);
        x.read(40);
        Expect.same("the first slot", x.slot(40), 0);
        x.write(41, 1L);
        Expect.same("one in the middle", x.slot(41), 5);
        x.read(42);
        Expect.same("the last slot", x.slot(42), 11);
        Expect.same("none has gone for them", x.figure(4) + " " + x.slot(1), "12 1");
        x.read(43);
        Expect.same("now the last of the order", x.slot(43) + " " + x.slot(1), "1 -1");
        WriteBackTier y = Given.writtenBack(2, 1, 2);
        y.mode(PAST);
        y.write(2, 1L);
        y.mode(BACK);
        y.write(3, 1L);
        Expect.same("an empty one goes before the last of the order", Look.order(y), "3 1");
    }

    private static void roomIsTheLastOfTheOrder() {
        Expect.about("if none is, the last one of the order");
        WriteBackTier one = Given.readIn(1, 1, 2, 3);
        Expect.same("of one slot", Look.order(one) + " " + one.slot(3), "3 0");
        WriteBackTier x = Given.readIn(12, Given.blocks(0, 12));
        x.read(0);
        x.read(20);
        Expect.same("of twelve, the second after the first was used", x.slot(20) + " " + x.slot(0), "1 0");
        x.write(21, 1L);
        Expect.same("then the third, by a write", x.slot(21) + " " + x.slot(2), "2 -1");
        x.check();
        x.crash();
        x.read(22);
        Expect.same("after a stop the slot of the greatest number", x.slot(22), 11);
        x.read(23);
        Expect.same("and then the one before", x.slot(23), 10);
        WriteBackTier y = Given.written(2, 1, 2);
        y.mode(THROUGH);
        y.read(3);
        Expect.same("in THROUGH too", Look.order(y), "3 2");
    }

    private static void roomIsWrittenBackIfDirty() {
        Expect.about("the last one of the order: if it is dirty, it is written back");
        WriteBackTier x = Given.written(1, 63);
        x.read(0);
        Expect.same("a dirty one, for a read", x.origin(63) + " " + x.figure(2), "630 1");
        x.write(1, 11L);
        Expect.same("a clean one, for a write", x.figure(2), 1);
        x.write(2, 22L);
        Expect.same("a dirty one, for a write", x.origin(1) + " " + x.figure(2), "11 2");
        x.cut(3, 33L, 0);
        Expect.same("a dirty one, for a cut", x.origin(2) + " " + x.figure(2), "22 3");
        Expect.same("the hand does not move", x.figure(7), 0);
        WriteBackTier y = Given.written(2, 1, 2);
        y.read(3);
        Expect.same("only that one", y.origin(1) + " " + y.origin(2) + " " + y.figure(2), "10 0 1");
    }

    private static void roomIsNotedIfNotNotedEmpty() {
        Expect.about("it becomes empty, and then, if it was not noted to be empty, it is noted");
        WriteBackTier x = Given.readIn(1, 1);
        x.read(2);
        Expect.same("noted empty: not again", x.figure(3), 0);
        x.check();
        Expect.same("noted clean", x.figure(3) + " " + x.noted(0), "1 4");
        x.read(3);
        Expect.same("noted clean: noted empty", x.figure(3) + " " + x.noted(0), "2 -1");
        x.write(3, 30L);
        x.read(4);
        Expect.same("noted dirty: noted clean, then empty", x.figure(3) + " " + x.noted(0), "5 -1");
    }

    private static void readingAHit() {
        Expect.about("READING b: if it is cached, that is a HIT: the slot's value, and the slot is used.");
        for (int m : new int[] {BACK, THROUGH, PAST}) {
            WriteBackTier x = Given.written(2, 1, 2);
            x.mode(m);
            int noted = x.figure(3);
            Expect.same("value in mode " + m, x.read(1), 10L);
            Expect.same("order in mode " + m, Look.order(x), "1 2");
            Expect.same("hits, misses in mode " + m, x.figure(0) + " " + x.figure(1), "1 0");
            Expect.same("nothing noted in mode " + m, x.figure(3), noted);
            Expect.same("as dirty as before in mode " + m, x.dirty(1), m == BACK);
        }
    }

    private static void readingAMiss() {
        Expect.about("room is found, and the slot has b with this value, clean, is used, and is not noted");
        for (int m : new int[] {BACK, THROUGH}) {
            for (int slots : new int[] {1, 12}) {
                WriteBackTier x = new WriteBackTier(slots);
                x.mode(m);
                Expect.same("an empty cache in mode " + m, x.read(63) + " " + Look.block(x, 63), "0 0");
                for (int b = 0; b < slots; b++) {
                    x.read(b);
                }
                Expect.same("a full cache in mode " + m, Look.block(x, 63) + " " + Look.block(x, slots - 1), "- 0");
                Expect.same("the one read last in mode " + m, x.order(0), slots - 1);
                Expect.same("figures in mode " + m, Look.figures(x), "0 " + (slots + 1) + " 0 0 " + slots + " 0 " + m + " 0");
            }
        }
    }

    private static void readingAMissInPast() {
        Expect.about("and unless the mode is PAST, room is found");
        WriteBackTier x = new WriteBackTier(1);
        x.mode(PAST);
        x.write(63, 5L);
        Expect.same("an empty cache", x.read(63) + " " + Look.block(x, 63), "5 -");
        Expect.same("figures of an empty cache", Look.figures(x), "0 1 1 0 0 0 2 0");
        WriteBackTier y = Given.written(2, 1, 2);
        y.mode(PAST);
        Expect.same("a full cache", y.read(3) + " " + y.read(3) + " " + Look.order(y), "0 0 2 1");
        Expect.same("figures of a full cache", Look.figures(y), "0 2 2 4 2 0 2 0");
    }

    private static void writingThroughWhatIsNotCached() {
        Expect.about("THROUGH: the origin gets v");
        writingWhatIsNotCached(THROUGH);
    }

    private static void writingWhatIsNotCached(int m) {
        for (int slots : new int[] {1, 12}) {
            WriteBackTier x = new WriteBackTier(slots);
            x.mode(m);
            x.write(63, 5L);
            Expect.same("an empty cache", x.origin(63) + " " + Look.figures(x), "5 0 0 1 0 0 0 " + m + " 0");
            WriteBackTier y = Given.readIn(slots, Given.blocks(0, slots));
            y.mode(m);
            y.write(63, 5L);
            Expect.same("a full cache", y.origin(63) + " " + Look.block(y, 63) + " " + Look.figures(y),
                "5 - 0 " + slots + " 1 0 " + slots + " 0 " + m + " 0");
        }
    }

    private static void writingThroughWhatIsCached() {
        Expect.about("if b is cached, so does its slot, which is clean then, is noted if it was noted to be dirty, and is used");
        WriteBackTier x = Given.written(3, 1, 2);
        x.read(3);
        x.mode(THROUGH);
        x.write(1, 11L);
        Expect.same("noted clean: not again", x.figure(3) + " " + Look.noted(x), "4 2 4 -1");
        Expect.same("it is used", Look.order(x), "1 3 2");
        x.write(3, 33L);
        Expect.same("noted empty: not noted", x.figure(3) + " " + Look.noted(x), "4 2 4 -1");
        Expect.same("all are clean", x.figure(5), 0);
        Expect.same("the origin got each", x.figure(2) + " " + x.origin(1) + " " + x.origin(3), "4 11 33");
        Expect.same("the slots have the values", Look.values(x), "1=11 2=20 3=33");
    }

    private static void writingPastWhatIsNotCached() {
        Expect.about("PAST: the origin gets v");
        writingWhatIsNotCached(PAST);
    }

    private static void writingPastWhatIsCached() {
        Expect.about("if b is cached, its slot becomes empty, and is noted if it was not noted to be empty");
        WriteBackTier x = Given.written(3, 1, 2);
        x.read(3);
        x.mode(PAST);
        x.write(3, 33L);
        Expect.same("noted empty: not again", x.figure(3) + " " + Look.noted(x), "4 2 4 -1");
        Expect.same("it is empty", Look.block(x, 3) + " " + Look.order(x), "- 2 1");
        x.write(2, 22L);
        Expect.same("noted clean: noted empty", x.figure(3) + " " + Look.noted(x), "5 2 -1 -1");
        x.write(2, 23L);
        Expect.same("once more: not cached now", x.figure(3) + " " + x.figure(2), "5 5");
        Expect.same("the origin", x.origin(2) + " " + x.origin(3), "23 33");
        Expect.same("a read finds the origin's value", x.read(2) + " " + x.figure(1), "23 2");
        Expect.same("what is empty stays so after a stop", x.crash() + " " + Look.order(x), "1 1");
    }

    private static void writingBackWhatIsNotCached() {
        Expect.about("BACK: if b is not cached, room is found, and then in two STEPS:"
            + " the slot has b with the value v, dirty; it is noted.");
        for (int slots : new int[] {1, 12}) {
            WriteBackTier x = new WriteBackTier(slots);
            x.write(63, 5L);
            Expect.same("an empty cache", Look.block(x, 63) + " " + x.noted(0) + " " + Look.figures(x),
                "0* 127 0 0 0 1 1 1 0 0");
            WriteBackTier y = Given.readIn(slots, Given.blocks(0, slots));
            y.write(63, 5L);
            Expect.same("a full cache", Look.block(y, 63) + " " + y.noted(0) + " " + Look.figures(y),
                "0* 127 0 " + slots + " 0 1 " + slots + " 1 0 0");
            Expect.same("it is used", y.order(0), 63);
            Expect.same("it has the value", x.read(63) + y.read(63), 10L);
        }
    }

    private static void writingBackWhatIsNotedDirty() {
        Expect.about("If b is cached and its slot is noted to have b, dirty: one step: it gets v (and is dirty).");
        WriteBackTier x = Given.written(2, 63, 0);
        x.write(63, 5L);
        Expect.same("not noted again", x.figure(3) + " " + Look.noted(x), "2 127 1");
        Expect.same("dirty still, and used", Look.block(x, 63) + " " + Look.order(x), "0* 63 0");
        Expect.same("the new value", x.read(63), 5L);
        x.crash();
        x.write(0, 6L);
        Expect.same("nor after a stop", x.figure(3) + " " + x.read(0), "2 6");
        Expect.same("the origin gets nothing", x.figure(2), 0);
    }

    private static void writingBackOtherwise() {
        Expect.about("Otherwise two: its slot is dirty, and it is noted; it gets v.");
        WriteBackTier x = Given.writtenBack(2, 63);
        x.read(0);
        int noted = x.figure(3);
        x.write(63, 5L);
        Expect.same("noted clean: noted dirty", x.figure(3) - noted + " " + Look.noted(x), "1 127 -1");
        Expect.same("dirty, and used", Look.block(x, 63) + " " + Look.order(x), "0* 63 0");
        x.write(0, 6L);
        Expect.same("noted empty: noted dirty", x.figure(3) - noted + " " + Look.noted(x), "2 127 1");
        Expect.same("dirty, and used then", Look.block(x, 0) + " " + Look.order(x), "1* 0 63");
        Expect.same("the values", Look.values(x), "0=6 63=5");
        Expect.same("the origin gets nothing more", x.figure(2), 1);
    }

    private static void stoppedSlotsAreWhatIsNoted() {
        Expect.about("WHEN THE MACHINE STOPS, each slot becomes what is noted of it");
        WriteBackTier x = Given.written(4, 63, 0);
        x.back(1);
        x.read(7);
        x.crash();
        Expect.same("noted dirty", Look.block(x, 63), "0*");
        Expect.same("noted clean", Look.block(x, 0), "1");
        Expect.same("noted empty, though it has a block", Look.block(x, 7), "-");
        Expect.same("noted empty, and so it is", x.figure(4), 2);
        Expect.same("what is noted stays", Look.noted(x) + " " + x.figure(3), "127 0 -1 -1 3");
        Expect.same("what has gone is a miss", x.read(7) + " " + x.figure(1), "0 2");
    }

    private static void stoppedSlotsKeepTheirValue() {
        Expect.about("(with the value that the slot has)");
        WriteBackTier x = Given.written(2, 1);
        x.write(1, 11L);
        x.mode(THROUGH);
        x.write(1, 12L);
        x.crash();
        Expect.same("the last value, clean", x.read(1) + " " + Look.block(x, 1), "12 0");
        x.write(1, 13L);
        x.write(1, 14L);
        x.crash();
        Expect.same("the last value, dirty", x.read(1) + " " + x.origin(1), "14 12");
        x.cut(1, 15L, 0);
        Expect.same("a value that was not reached", x.read(1), 14L);
    }

    private static void stoppedOrderIsThatOfTheNumbers() {
        Expect.about("the order is that of the slots' numbers, those that are empty left out");
        WriteBackTier x = Given.written(12, Given.blocks(20, 12));
        x.crash();
        Expect.same("twelve", Look.order(x), "20 21 22 23 24 25 26 27 28 29 30 31");
        x.mode(PAST);
        for (int b : new int[] {20, 25, 31}) {
            x.write(b, 0L);
        }
        x.read(30);
        x.crash();
        Expect.same("without the first, one between, and the last", Look.order(x), "21 22 23 24 26 27 28 29 30");
        x.read(26);
        Expect.same("a use after the stop", Look.order(x), "26 21 22 23 24 27 28 29 30");
        WriteBackTier none = Given.readIn(12, Given.blocks(0, 12));
        none.crash();
        Expect.same("all are empty", Look.order(none), "");
        WriteBackTier one = Given.written(1, 63);
        one.crash();
        Expect.same("one slot", Look.order(one), "63");
    }

    private static void stoppedModeIsBack() {
        Expect.about("and the mode is BACK");
        for (int m : new int[] {BACK, THROUGH, PAST}) {
            WriteBackTier x = Given.written(2, 1);
            x.mode(m);
            x.crash();
            Expect.same("after a crash in mode " + m, x.figure(6), 0);
            x.write(2, 20L);
            Expect.same("a write then", Look.block(x, 2) + " " + x.origin(2), "1* 0");
            x.mode(m);
            x.lose();
            Expect.same("after a loss in mode " + m, x.figure(6), 0);
        }
    }
}

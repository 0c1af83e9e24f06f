/** The boundary cases that the promises name, sentence by sentence; the refused calls are in RefusedCallsTest. */
public final class PromiseEdgesTest {
    private static final int BACK = 0;
    private static final int THROUGH = 1;
    private static final int PAST = 2;

    private PromiseEdgesTest() {
    }

    public static void main(String[] args) {
        promise1NumberOfSlots();
        promise1NoSuchNumberOfSlots();
        promise4StepsOfANewBlock();
        promise4StepsOfABlockNotedDirty();
        promise4StepsOfABlockNotedClean();
        promise4StepsOfABlockNotedEmpty();
        promise4RoomInAnyCase();
        promise4TheMachineStops();
        promise5TheModeStays();
        promise5HowMany();
        promise5BackWritesNothing();
        promise6AtMostN();
        promise6NotBelowTheHand();
        promise6TheLeastAtAll();
        promise6OnceRoundInOneCall();
        promise6TheHandIsThatBlockAnd1();
        promise6TheHandStaysWithoutBack();
        promise6TheHandIs0AfterAStop();
        promise7NotesWhatIsNotNoted();
        promise7HowMany();
        promise8HowMany();
        promise9AllSlotsAreEmpty();
        promise9HowMany();
        promise10NotCached();
        promise11WhetherDirty();
        promise12TheOriginsValue();
        promise13FirstAndLastOfTheOrder();
        promise14LeastAndGreatestNotes();
        promise14FirstAndLastSlot();
        promise15FiguresAtFirst();
        promise15FiguresOfAFullCache();
        promise15NotedButNotByLose();
        promise15HitsAndMisses();
        promise15TheOriginGotAValue();
        Expect.end();
    }

    private static int countSlots(WriteBackTier x) {
        return Look.noted(x).split(" ").length;
    }

    private static void promise1NumberOfSlots() {
        Expect.about("S is slots");
        for (int slots = 1; slots <= 12; slots++) {
            WriteBackTier x = Given.readIn(slots, Given.blocks(0, 13));
            Expect.same("slots that are noted of, made with " + slots, countSlots(x), slots);
            Expect.same("slots that are filled, made with " + slots, x.figure(4), slots);
        }
    }

    private static void promise1NoSuchNumberOfSlots() {
        Expect.about("6 when it is not 1 .. 12");
        for (int slots : new int[] {0, -1, -6, -12, 13, 14, 64, Integer.MIN_VALUE, Integer.MAX_VALUE}) {
            WriteBackTier x = Given.readIn(slots, Given.blocks(0, 13));
            Expect.same("slots that are noted of, made with " + slots, countSlots(x), 6);
            Expect.same("slots that are filled, made with " + slots, x.figure(4), 6);
        }
    }

    /** How many steps were done, what block 63 is then, and how often something was noted. */
    private static String cutBlock63(WriteBackTier x, int n) {
        return x.cut(63, 5L, n) + " " + Look.block(x, 63) + " " + x.figure(3);
    }

    private static void promise4StepsOfANewBlock() {
        Expect.about("the machine stops when n of its steps are done");
        String[] due = {"0 - 0", "1 - 0", "2 0* 1"};
        for (int n = 0; n <= 2; n++) {
            WriteBackTier x = new WriteBackTier(2);
            Expect.same("a new block, n " + n, cutBlock63(x, n), due[n]);
            Expect.same("its value, n " + n, x.read(63), n == 2 ? 5L : 0L);
        }
    }

    private static void promise4StepsOfABlockNotedDirty() {
        Expect.about("or all of them, if they are fewer");
        String[] due = {"0 0* 1", "1 0* 1", "1 0* 1"};
        for (int n = 0; n <= 2; n++) {
            WriteBackTier x = Given.written(2, 63);
            Expect.same("noted dirty, n " + n, cutBlock63(x, n), due[n]);
            Expect.same("its value, n " + n, x.read(63), n == 0 ? 630L : 5L);
        }
    }

    private static void promise4StepsOfABlockNotedClean() {
        Expect.about("the machine stops when n of its steps are done");
        String[] due = {"0 0 2", "1 0* 3", "2 0* 3"};
        for (int n = 0; n <= 2; n++) {
            WriteBackTier x = Given.writtenBack(2, 63);
            Expect.same("noted clean, n " + n, cutBlock63(x, n), due[n]);
            Expect.same("its value, n " + n, x.read(63), n == 2 ? 5L : 630L);
            Expect.same("the origin, n " + n, x.origin(63) + " " + x.figure(2), "630 1");
        }
    }

    private static void promise4StepsOfABlockNotedEmpty() {
        Expect.about("the machine stops when n of its steps are done");
        String[] due = {"0 - 0", "1 0* 1", "2 0* 1"};
        for (int n = 0; n <= 2; n++) {
            WriteBackTier x = new WriteBackTier(2);
            x.mode(THROUGH);
            x.write(63, 4L);
            x.mode(BACK);
            x.read(63);
            Expect.same("noted empty, n " + n, cutBlock63(x, n), due[n]);
            Expect.same("its value, n " + n, x.read(63), n == 2 ? 5L : 4L);
        }
    }

    private static void promise4RoomInAnyCase() {
        Expect.about("(room, where it must be found, is found in any case)");
        for (int n = 0; n <= 2; n++) {
            for (int slots : new int[] {1, 12}) {
                WriteBackTier x = Given.written(slots, Given.blocks(1, slots));
                Expect.same("a full cache, n " + n, x.cut(63, 5L, n), n);
                Expect.same("the last of the order goes", Look.block(x, 1) + " " + x.origin(1), "- 10");
                Expect.same("noted clean, then empty", x.figure(3), slots + 2 + n / 2);
                Expect.same("full slots then", x.figure(4), slots - 1 + n / 2);
            }
            WriteBackTier y = Given.written(2, 1);
            y.cut(63, 5L, n);
            Expect.same("an empty slot is room, n " + n, Look.block(y, 1) + " " + y.figure(2), "0* 0");
            WriteBackTier z = Given.written(2, 1, 2);
            z.cut(1, 5L, n);
            Expect.same("no room is sought for a cached block, n " + n, z.figure(4) + " " + z.figure(2), "2 0");
        }
    }

    private static void promise4TheMachineStops() {
        Expect.about("but the machine stops");
        for (int n = 0; n <= 2; n++) {
            WriteBackTier x = Given.written(5, 30, 20, 10);
            x.back(1);
            x.read(40);
            Expect.same("the hand before", x.figure(7), 11);
            x.cut(10, 5L, n);
            Expect.same("what was not noted goes, n " + n, Look.block(x, 40), "-");
            Expect.same("the order, n " + n, Look.order(x), "30 20 10");
            Expect.same("the hand, n " + n, x.figure(7), 0);
            Expect.same("the mode, n " + n, x.figure(6), 0);
            Expect.same("neither hit nor miss but the read, n " + n, x.figure(0) + " " + x.figure(1), "0 1");
        }
    }

    private static void promise5TheModeStays() {
        Expect.about("The mode becomes another one (or stays)");
        for (int from = BACK; from <= PAST; from++) {
            for (int to = BACK; to <= PAST; to++) {
                WriteBackTier x = new WriteBackTier(2);
                x.mode(from);
                Expect.same("an empty cache, " + from + " to " + to, x.mode(to), 0);
                Expect.same("the mode, " + from + " to " + to, x.figure(6), to);
            }
        }
    }

    private static void promise5HowMany() {
        Expect.about("if it is THROUGH or PAST, all dirty slots are written back, by their numbers. How many.");
        for (int m : new int[] {THROUGH, PAST}) {
            for (int slots : new int[] {1, 12}) {
                WriteBackTier x = Given.written(slots, Given.blocks(64 - slots, slots));
                Expect.same("all are dirty, mode " + m, x.mode(m), slots);
                Expect.same("figures, mode " + m, Look.figures(x), "0 0 " + slots + " " + 2 * slots + " " + slots + " 0 " + m + " 0");
                Expect.same("the origin's first and last", x.origin(64 - slots) + " " + x.origin(63), (640 - 10 * slots) + " 630");
                Expect.same("once more, mode " + m, x.mode(m), 0);
                WriteBackTier y = Given.readIn(slots, Given.blocks(0, slots));
                Expect.same("all are clean, mode " + m, y.mode(m) + " " + y.figure(2) + " " + y.figure(3), "0 0 0");
            }
            WriteBackTier z = Given.readIn(3, 1, 2, 3);
            z.write(3, 30L);
            Expect.same("the last slot alone, mode " + m, z.mode(m) + " " + z.origin(3) + " " + Look.noted(z), "1 30 -1 -1 6");
        }
    }

    private static void promise5BackWritesNothing() {
        Expect.about("if it is THROUGH or PAST, all dirty slots are written back");
        WriteBackTier x = Given.written(12, Given.blocks(0, 12));
        Expect.same("BACK", x.mode(BACK), 0);
        Expect.same("all are dirty still", Look.figures(x), "0 0 0 12 12 12 0 0");
    }

    private static void promise6AtMostN() {
        Expect.about("At most n times");
        for (int n = 0; n <= 12; n++) {
            WriteBackTier full = Given.written(12, Given.blocks(0, 12));
            Expect.same("of twelve, n " + n, full.back(n), n);
            Expect.same("figures of twelve, n " + n, Look.figures(full), "0 0 " + n + " " + (12 + n) + " 12 " + (12 - n) + " 0 " + n);
            WriteBackTier three = Given.written(12, 0, 1, 2);
            Expect.same("of three, n " + n, three.back(n), Math.min(n, 3));
            Expect.same("left of three, n " + n, three.figure(5), 3 - Math.min(n, 3));
            Expect.same("of none, n " + n, new WriteBackTier(12).back(n), 0);
            Expect.same("of clean ones, n " + n, Given.readIn(12, Given.blocks(0, 12)).back(n), 0);
        }
        Expect.same("one slot", Given.written(1, 63).back(12), 1);
    }

    private static void promise6NotBelowTheHand() {
        Expect.about("of the dirty slots the one with the least block that is not below the HAND");
        WriteBackTier x = Given.written(6, 40, 5);
        x.back(1);
        Expect.same("the hand", x.figure(7), 6);
        x.write(7, 1L);
        x.write(6, 1L);
        x.write(5, 1L);
        x.back(1);
        Expect.same("the hand's own block, not the one below", Look.block(x, 6) + " " + x.figure(7), "3 7");
        x.back(1);
        Expect.same("the next", Look.block(x, 7) + " " + x.figure(7), "2 8");
        x.back(1);
        Expect.same("one further on", Look.block(x, 40) + " " + x.figure(7), "0 41");
        Expect.same("the one below is left", Look.block(x, 5) + " " + x.figure(5), "1* 1");
    }

    private static void promise6TheLeastAtAll() {
        Expect.about("or, if there is none, the one with the least block at all");
        WriteBackTier x = Given.written(4, 63);
        x.back(1);
        Expect.same("the hand behind the last block", x.figure(7), 64);
        x.write(63, 1L);
        x.write(1, 1L);
        x.write(0, 1L);
        x.back(1);
        Expect.same("on from the last block to the least", Look.block(x, 0) + " " + x.figure(7), "2 1");
        x.back(1);
        Expect.same("and upwards", Look.block(x, 1) + " " + x.figure(7), "1 2");
        x.back(1);
        Expect.same("to the last again", Look.block(x, 63) + " " + x.figure(7), "0 64");
        x.write(63, 2L);
        Expect.same("the last again, alone", x.back(1) + " " + x.figure(7) + " " + x.origin(63), "1 64 2");
        WriteBackTier y = Given.written(2, 5);
        y.back(1);
        y.write(5, 1L);
        Expect.same("the block just below the hand, alone", y.back(1) + " " + y.figure(7) + " " + y.origin(5), "1 6 1");
    }

    private static void promise6OnceRoundInOneCall() {
        Expect.about("or, if there is none, the one with the least block at all");
        WriteBackTier x = Given.written(12, 31);
        x.back(1);
        for (int b : new int[] {63, 0, 32, 31, 30, 62, 1}) {
            x.write(b, 100L + b);
        }
        Expect.same("from the hand to the last block, and on", x.back(5), 5);
        Expect.same("the hand", x.figure(7), 2);
        Expect.same("what is left", Look.block(x, 30) + " " + Look.block(x, 31) + " " + x.figure(5), "4* 0* 2");
        Expect.same("the rest", x.back(12) + " " + x.figure(7) + " " + x.figure(5), "2 32 0");
    }

    private static void promise6TheHandIsThatBlockAnd1() {
        Expect.about("is written back, and the hand is that block and 1; it is 0 at first");
        Expect.same("at first", new WriteBackTier(1).figure(7), 0);
        for (int b : new int[] {0, 1, 62, 63}) {
            WriteBackTier x = Given.written(1, b);
            x.back(1);
            Expect.same("after block " + b, x.figure(7), b + 1);
        }
        WriteBackTier y = Given.written(3, 0, 1, 2);
        y.back(1);
        Expect.same("0 at first, so block 0 goes first", Look.block(y, 0) + " " + Look.block(y, 1), "0 1*");
    }

    private static void promise6TheHandStaysWithoutBack() {
        Expect.about("is written back, and the hand is that block and 1");
        WriteBackTier x = Given.written(2, 9);
        x.back(1);
        x.back(0);
        x.back(12);
        Expect.same("when none is written back", x.figure(7), 10);
        x.write(20, 1L);
        x.mode(THROUGH);
        x.mode(BACK);
        Expect.same("when the mode writes back", x.figure(7), 10);
        x.write(21, 1L);
        x.write(22, 1L);
        x.write(23, 1L);
        Expect.same("when room is found", x.figure(7) + " " + x.origin(21), "10 1");
    }

    private static void promise6TheHandIs0AfterAStop() {
        Expect.about("it is 0 at first, and when the machine has stopped");
        WriteBackTier x = Given.written(2, 63);
        x.back(1);
        x.crash();
        Expect.same("crash", x.figure(7), 0);
        x.write(63, 1L);
        x.back(1);
        x.cut(63, 1L, 0);
        Expect.same("cut", x.figure(7), 0);
        x.write(63, 1L);
        x.back(1);
        x.lose();
        Expect.same("lose", x.figure(7), 0);
        x.write(5, 1L);
        x.write(3, 1L);
        x.back(1);
        Expect.same("the least goes first again", x.figure(7), 4);
    }

    private static void promise7NotesWhatIsNotNoted() {
        Expect.about("Notes all slots, by their numbers, of which something else is noted than what is so.");
        WriteBackTier x = Given.readIn(3, 63, 1, 0);
        x.write(1, 10L);
        Expect.same("the first and the last slot", x.check() + " " + Look.noted(x), "2 126 3 0");
        Expect.same("how often noted", x.figure(3), 3);
        Expect.same("nothing else changes", Look.order(x) + " " + x.figure(5) + " " + x.figure(2), "1 0 63 1 0");
        Expect.same("all outlive a stop", x.crash() + " " + Look.order(x), "3 63 1 0");
    }

    private static void promise7HowMany() {
        Expect.about("of which something else is noted than what is so. How many.");
        Expect.same("a new one", new WriteBackTier(12).check(), 0);
        for (int slots : new int[] {1, 12}) {
            WriteBackTier x = Given.readIn(slots, Given.blocks(0, slots));
            Expect.same("all", x.check() + " " + x.figure(3), slots + " " + slots);
            Expect.same("once more", x.check() + " " + x.figure(3), "0 " + slots);
            Expect.same("dirty ones, noted so", Given.written(slots, Given.blocks(0, slots)).check(), 0);
            Expect.same("clean ones, noted so", Given.writtenBack(slots, Given.blocks(0, slots)).check(), 0);
        }
        WriteBackTier y = Given.readIn(2, 1, 2);
        y.mode(PAST);
        y.write(1, 0L);
        y.write(2, 0L);
        Expect.same("empty again", y.check(), 0);
        y.lose();
        Expect.same("lost", y.check(), 0);
    }

    private static void promise8HowMany() {
        Expect.about("The machine stops. How many slots are not empty then.");
        for (int slots : new int[] {1, 12}) {
            Expect.same("none was full", new WriteBackTier(slots).crash(), 0);
            WriteBackTier x = Given.written(slots, Given.blocks(0, slots));
            Expect.same("all are noted dirty", x.crash(), slots);
            Expect.same("once more", x.crash() + " " + x.figure(5), slots + " " + slots);
            Expect.same("all are noted clean", Given.writtenBack(slots, Given.blocks(0, slots)).crash(), slots);
            WriteBackTier y = Given.readIn(slots, Given.blocks(0, slots));
            Expect.same("all were full, none noted", y.crash() + " " + y.figure(4), "0 0");
        }
    }

    private static void promise9AllSlotsAreEmpty() {
        Expect.about("The machine stops, and the cache is lost: all slots are empty, and noted to be so.");
        for (int slots : new int[] {1, 12}) {
            WriteBackTier x = Given.written(slots, Given.blocks(64 - slots, slots));
            x.back(1);
            x.mode(PAST);
            x.mode(BACK);
            x.write(63, 7L);
            x.lose();
            Expect.same("order, full, dirty", Look.order(x) + x.figure(4) + x.figure(5), "00");
            Expect.same("noted", Look.noted(x), "-1 ".repeat(slots).trim());
            Expect.same("mode and hand", x.figure(6) + x.figure(7), 0);
            Expect.same("nothing comes back", x.crash() + " " + x.read(63), "0 630");
            Expect.same("room is the first slot", x.slot(63), 0);
        }
    }

    private static void promise9HowMany() {
        Expect.about("How many dirty slots there were before.");
        for (int slots : new int[] {1, 12}) {
            Expect.same("none was full", new WriteBackTier(slots).lose(), 0);
            WriteBackTier x = Given.written(slots, Given.blocks(0, slots));
            Expect.same("all were dirty", x.lose() + " " + x.figure(2), slots + " 0");
            Expect.same("once more", x.lose(), 0);
            Expect.same("all were clean", Given.readIn(slots, Given.blocks(0, slots)).lose(), 0);
        }
        WriteBackTier y = Given.written(12, 1, 2, 3);
        y.back(2);
        y.read(4);
        Expect.same("one of four was dirty", y.lose(), 1);
    }

    private static void promise10NotCached() {
        Expect.about("The slot that has a block; -1 when it is not cached.");
        WriteBackTier x = Given.written(12, Given.blocks(0, 12));
        Expect.same("the first and the last slot", x.slot(0) + " " + x.slot(11), "0 11");
        Expect.same("never cached", x.slot(12) + " " + x.slot(63), "-1 -1");
        x.read(63);
        Expect.same("gone for another", x.slot(0) + " " + x.slot(63), "-1 0");
        x.crash();
        Expect.same("gone by a stop", x.slot(63), -1);
        x.mode(PAST);
        x.write(11, 0L);
        Expect.same("gone by a write in PAST", x.slot(11), -1);
        x.lose();
        Expect.same("gone by a loss", x.slot(5), -1);
    }

    private static void promise11WhetherDirty() {
        Expect.about("Whether a block's slot is dirty.");
        WriteBackTier x = Given.readIn(2, 0);
        Expect.same("block 0, read", x.dirty(0), false);
        x.write(0, 1L);
        x.write(63, 1L);
        Expect.same("blocks 0 and 63, written", x.dirty(0) && x.dirty(63), true);
        x.back(1);
        Expect.same("block 0, written back", x.dirty(0), false);
        Expect.same("block 63, not yet", x.dirty(63), true);
        x.crash();
        Expect.same("after a stop", x.dirty(63) && !x.dirty(0), true);
    }

    private static void promise12TheOriginsValue() {
        Expect.about("The origin's value of a block.");
        WriteBackTier x = Given.written(1, 63);
        Expect.same("not the slot's", x.origin(63), 0L);
        x.back(1);
        x.write(63, 1L);
        Expect.same("that of before, while the slot is dirty", x.origin(63), 630L);
        x.lose();
        Expect.same("that of before, when the slot is lost", x.origin(63), 630L);
        Expect.same("no hit, no miss, not kept", Look.figures(x), "0 0 1 3 0 0 0 0");
    }

    private static void promise13FirstAndLastOfTheOrder() {
        Expect.about("The block of the k-th slot (from 0) of the order.");
        WriteBackTier x = Given.written(12, Given.blocks(52, 12));
        Expect.same("the first and the last of twelve", x.order(0) + " " + x.order(11), "63 52");
        WriteBackTier y = Given.readIn(1, 0);
        Expect.same("the first of one", y.order(0), 0);
    }

    private static void promise14LeastAndGreatestNotes() {
        Expect.about("-1 empty, else twice the block, and 1 if dirty");
        WriteBackTier x = Given.written(3, 0, 63);
        Expect.same("dirty", Look.noted(x), "1 127 -1");
        x.back(12);
        Expect.same("clean", Look.noted(x), "0 126 -1");
        x.mode(PAST);
        x.write(0, 1L);
        Expect.same("empty again", Look.noted(x), "-1 126 -1");
    }

    private static void promise14FirstAndLastSlot() {
        Expect.about("What is noted of a slot");
        for (int slots = 1; slots <= 12; slots++) {
            WriteBackTier x = Given.written(slots, Given.blocks(1, slots));
            Expect.same("the first of " + slots, x.noted(0), 3);
            Expect.same("the last of " + slots, x.noted(slots - 1), 2 * slots + 1);
        }
    }

    private static void promise15FiguresAtFirst() {
        Expect.about("k = 0: hits; 1: misses;");
        for (int slots : new int[] {1, 6, 12}) {
            Expect.same("at first", Look.figures(new WriteBackTier(slots)), "0 0 0 0 0 0 0 0");
        }
    }

    private static void promise15FiguresOfAFullCache() {
        Expect.about("4: how many slots are not empty; 5: how many are dirty; 6: the mode; 7: the hand");
        WriteBackTier x = Given.written(12, Given.blocks(52, 12));
        Expect.same("twelve dirty", Look.figures(x), "0 0 0 12 12 12 0 0");
        x.back(12);
        Expect.same("twelve clean, the hand at its greatest", Look.figures(x), "0 0 12 24 12 0 0 64");
        x.mode(PAST);
        Expect.same("the greatest mode", Look.figures(x), "0 0 12 24 12 0 2 64");
        WriteBackTier y = Given.written(1, 0);
        Expect.same("one dirty", Look.figures(y), "0 0 0 1 1 1 0 0");
        y.back(1);
        Expect.same("one clean", Look.figures(y), "0 0 1 2 1 0 0 1");
    }

    private static void promise15NotedButNotByLose() {
        Expect.about("3: how often something was noted (not by lose())");
        WriteBackTier x = Given.written(3, 1, 2);
        x.read(3);
        x.lose();
        Expect.same("lose", x.figure(3), 2);
        x.write(1, 1L);
        x.crash();
        Expect.same("a stop notes nothing", x.figure(3), 3);
        x.lose();
        x.lose();
        Expect.same("lose again", x.figure(3), 3);
    }

    private static void promise15HitsAndMisses() {
        Expect.about("k = 0: hits; 1: misses;");
        WriteBackTier x = new WriteBackTier(1);
        x.write(1, 1L);
        x.write(1, 2L);
        x.write(2, 3L);
        x.cut(2, 4L, 2);
        Expect.same("writes are neither", x.figure(0) + " " + x.figure(1), "0 0");
        x.read(1);
        x.read(1);
        x.read(2);
        x.mode(PAST);
        x.read(1);
        x.read(2);
        Expect.same("reads are one of them", x.figure(0) + " " + x.figure(1), "2 3");
        x.crash();
        x.lose();
        Expect.same("they go on after a stop", x.figure(0) + " " + x.figure(1), "2 3");
    }

    private static void promise15TheOriginGotAValue() {
        Expect.about("2: how often the origin got a value");
        WriteBackTier x = Given.written(1, 1);
        Expect.same("a write in BACK", x.figure(2), 0);
        x.back(1);
        Expect.same("back", x.figure(2), 1);
        x.write(1, 10L);
        x.back(1);
        Expect.same("the value that it has already", x.figure(2), 2);
        x.write(1, 5L);
        x.read(2);
        Expect.same("room", x.figure(2), 3);
        x.write(2, 5L);
        x.mode(THROUGH);
        Expect.same("mode", x.figure(2), 4);
        x.write(2, 5L);
        x.write(3, 5L);
        Expect.same("THROUGH, cached and not", x.figure(2), 6);
        x.mode(PAST);
        x.write(2, 5L);
        x.write(3, 5L);
        Expect.same("PAST, cached and not", x.figure(2), 8);
        x.crash();
        x.lose();
        Expect.same("a stop gives it nothing", x.figure(2), 8);
    }
}

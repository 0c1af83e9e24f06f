/** Each promise by hand-made runs of ordinary calls; edges and wrong inputs have tests of their own. */
public final class PromisesTest {
    private static final int BACK = 0;
    private static final int THROUGH = 1;
    private static final int PAST = 2;

    private PromisesTest() {
    }

    public static void main(String[] args) {
        promise1NewObject();
        promise2ReadHitsAndMisses();
        promise2ReadFindsRoom();
        promise2ReadPast();
        promise3WriteBackMode();
        promise3WriteThrough();
        promise3WritePast();
        promise4CutOfNewBlock();
        promise4CutOfCachedBlock();
        promise4CutStopsTheMachine();
        promise5Mode();
        promise6Back();
        promise6HandAtTheEnds();
        promise7Check();
        promise8Crash();
        promise9Lose();
        promise10Slot();
        promise11Dirty();
        promise12Origin();
        promise13Order();
        promise14Noted();
        promise15Figure();
        Expect.end();
    }

    private static void promise1NewObject() {
        int[][] sizes = {{1, 1}, {2, 2}, {6, 6}, {11, 11}, {12, 12}, {0, 6}, {13, 6}, {-1, 6},
            {Integer.MIN_VALUE, 6}, {Integer.MAX_VALUE, 6}};
        for (int[] size : sizes) {
            WriteBackTier x = new WriteBackTier(size[0]);
            Expect.same("1: noted at first, made with " + size[0],
                Look.noted(x), "-1 ".repeat(size[1]).trim());
            Expect.same("1: figures at first", Look.figures(x), "0 0 0 0 0 0 0 0");
            Expect.same("1: order at first", Look.order(x), "");
            for (int b = 0; b < 13; b++) {
                x.read(b);
            }
            Expect.same("1: full slots, made with " + size[0], x.figure(4), size[1]);
        }
        WriteBackTier x = new WriteBackTier(3);
        for (int b = 0; b < Look.BLOCKS; b++) {
            Expect.same("1: block " + b + " at first", Look.block(x, b), "-");
            Expect.same("1: origin of " + b + " at first", x.origin(b), 0L);
        }
    }

    private static void promise2ReadHitsAndMisses() {
        WriteBackTier x = new WriteBackTier(3);
        Expect.same("2: read of a new block", x.read(63), 0L);
        Expect.same("2: it is kept, clean", Look.block(x, 63), "0");
        Expect.same("2: a miss is not noted", Look.noted(x), "-1 -1 -1");
        x.read(0);
        Expect.same("2: the miss is used", Look.order(x), "0 63");
        x.read(63);
        Expect.same("2: the hit is used", Look.order(x), "63 0");
        x.write(7, Long.MIN_VALUE);
        Expect.same("2: a hit answers the slot's value", x.read(7), Long.MIN_VALUE);
        Expect.same("2: a hit leaves it dirty", Look.block(x, 7), "2*");
        Expect.same("2: hits, misses, origin, noted", Look.figures(x), "2 2 0 1 3 1 0 0");
    }

    private static void promise2ReadFindsRoom() {
        WriteBackTier x = Given.written(2, 1, 2);
        x.read(1);
        x.read(3);
        Expect.same("2: the last of the order goes", Look.order(x), "3 1");
        Expect.same("2: it was dirty, so the origin has it", x.origin(2), 20L);
        Expect.same("2: its slot is taken", Look.block(x, 3), "1");
        Expect.same("2: noted clean, then empty", x.figure(3), 4);
        Expect.same("2: the new block is not noted", Look.noted(x), "3 -1");
        x.read(1);
        x.read(4);
        Expect.same("2: a clean slot that is noted empty is not noted again", x.figure(3), 4);
        Expect.same("2: nor written back", x.figure(2), 1);
        x.read(5);
        x.back(12);
        x.check();
        int noted = x.figure(3);
        x.read(6);
        Expect.same("2: a clean slot that is noted clean is noted empty", x.figure(3), noted + 1);
        Expect.same("2: a miss answers the origin's value", x.read(2), 20L);
        Expect.same("2: and the slot has it then", x.read(2), 20L);
        x.mode(PAST);
        x.write(6, 60L);
        x.write(2, 21L);
        x.mode(BACK);
        x.read(9);
        Expect.same("2: of two empty slots the first is taken", x.slot(9), 0);
    }

    private static void promise2ReadPast() {
        WriteBackTier x = Given.written(2, 1, 2);
        x.mode(PAST);
        Expect.same("2: a miss in PAST", x.read(5), 0L);
        Expect.same("2: nothing is kept in PAST", Look.block(x, 5), "-");
        Expect.same("2: order in PAST after a miss", Look.order(x), "2 1");
        Expect.same("2: a hit in PAST", x.read(1), 10L);
        Expect.same("2: order in PAST after a hit", Look.order(x), "1 2");
        Expect.same("2: figures in PAST", Look.figures(x), "1 1 2 4 2 0 2 0");
        x.mode(THROUGH);
        x.read(5);
        Expect.same("2: a miss in THROUGH is kept", Look.order(x), "5 1");
    }

    private static void promise3WriteBackMode() {
        WriteBackTier x = new WriteBackTier(2);
        x.write(4, 40L);
        Expect.same("3: a new block is dirty", Look.block(x, 4), "0*");
        Expect.same("3: and noted so", x.noted(0), 9);
        Expect.same("3: the origin has it not yet", x.origin(4), 0L);
        x.write(4, 41L);
        Expect.same("3: one that is noted dirty is not noted again", x.figure(3), 1);
        Expect.same("3: it has the new value", x.read(4), 41L);
        x.read(5);
        x.write(5, 50L);
        Expect.same("3: a clean one becomes dirty", Look.block(x, 5), "1*");
        Expect.same("3: and is noted", x.noted(1), 11);
        x.back(12);
        x.write(4, 42L);
        Expect.same("3: one that is noted clean is noted dirty", Look.noted(x), "9 10");
        Expect.same("3: the slot is used", Look.order(x), "4 5");
        x.write(6, 60L);
        Expect.same("3: room is found", Look.order(x), "6 4");
        Expect.same("3: noted of the room", Look.noted(x), "9 13");
        Expect.same("3: a write is neither hit nor miss", Look.figures(x), "1 1 2 7 2 2 0 6");
    }

    private static void promise3WriteThrough() {
        WriteBackTier x = Given.written(2, 1);
        x.read(2);
        x.mode(THROUGH);
        x.write(3, 30L);
        Expect.same("3: THROUGH keeps no new block", Look.block(x, 3), "-");
        Expect.same("3: the origin has it", x.origin(3), 30L);
        x.write(1, 11L);
        Expect.same("3: THROUGH leaves it clean", Look.block(x, 1), "0");
        Expect.same("3: the origin's value in THROUGH", x.origin(1), 11L);
        Expect.same("3: the slot's value in THROUGH", x.read(1), 11L);
        x.write(2, 22L);
        Expect.same("3: THROUGH uses the slot", Look.order(x), "2 1");
        Expect.same("3: THROUGH notes no clean slot", Look.noted(x), "2 -1");
        Expect.same("3: figures in THROUGH", Look.figures(x), "1 1 4 2 2 0 1 0");
    }

    private static void promise3WritePast() {
        WriteBackTier x = Given.written(3, 1, 2);
        x.read(3);
        x.mode(PAST);
        x.write(3, 33L);
        Expect.same("3: PAST empties a slot that is noted empty", Look.block(x, 3), "-");
        Expect.same("3: without noting", x.figure(3), 4);
        x.write(1, 11L);
        Expect.same("3: PAST empties a slot that is noted clean", Look.order(x), "2");
        Expect.same("3: and notes it", Look.noted(x), "-1 4 -1");
        x.write(9, 90L);
        Expect.same("3: PAST keeps no new block", Look.block(x, 9), "-");
        Expect.same("3: the origin in PAST", x.origin(1) + x.origin(3) + x.origin(9), 134L);
        Expect.same("3: figures in PAST", Look.figures(x), "0 1 5 5 1 0 2 0");
    }

    private static void promise4CutOfNewBlock() {
        WriteBackTier x = new WriteBackTier(2);
        Expect.same("4: no step of a new block", x.cut(1, 10L, 0), 0);
        Expect.same("4: not kept after no step", Look.block(x, 1), "-");
        Expect.same("4: one step of a new block", x.cut(1, 10L, 1), 1);
        Expect.same("4: not noted, so not kept", Look.block(x, 1), "-");
        Expect.same("4: noted after one step", x.figure(3), 0);
        Expect.same("4: two steps of a new block", x.cut(1, 10L, 2), 2);
        Expect.same("4: kept after two steps", Look.block(x, 1), "0*");
        Expect.same("4: with its value", x.read(1), 10L);
        x = Given.written(1, 5);
        x.cut(6, 60L, 0);
        Expect.same("4: room is found though no step is done", Look.block(x, 5), "-");
        Expect.same("4: what made room went back", x.origin(5), 50L);
        Expect.same("4: and is noted to be empty", Look.noted(x), "-1");
        Expect.same("4: figures after room", Look.figures(x), "0 0 1 3 0 0 0 0");
    }

    private static void promise4CutOfCachedBlock() {
        WriteBackTier x = Given.written(3, 1);
        x.back(1);
        Expect.same("4: no step of a clean block", x.cut(1, 11L, 0), 0);
        Expect.same("4: clean as before", Look.block(x, 1), "0");
        Expect.same("4: one step of a clean block", x.cut(1, 11L, 1), 1);
        Expect.same("4: dirty after one step", Look.block(x, 1), "0*");
        Expect.same("4: with the value of before", x.read(1), 10L);
        Expect.same("4: no step of a dirty block", x.cut(1, 12L, 0), 0);
        Expect.same("4: its value after no step", x.read(1), 10L);
        Expect.same("4: a dirty block has one step alone", x.cut(1, 12L, 2), 1);
        Expect.same("4: which gives the value", x.read(1), 12L);
        Expect.same("4: one step, asked for one", x.cut(1, 13L, 1), 1);
        Expect.same("4: its value then", x.read(1), 13L);
        x.back(1);
        Expect.same("4: two steps of a clean block", x.cut(1, 14L, 2), 2);
        Expect.same("4: its value after two steps", x.read(1), 14L);
        x.read(2);
        Expect.same("4: no step of a block that is not noted", x.cut(2, 20L, 0), 0);
        Expect.same("4: so it is gone", Look.block(x, 2), "-");
        x.read(2);
        Expect.same("4: one step of a block that is not noted", x.cut(2, 20L, 1), 1);
        Expect.same("4: noted by that step", x.noted(1), 5);
        Expect.same("4: with the origin's value", x.read(2), 0L);
    }

    private static void promise4CutStopsTheMachine() {
        WriteBackTier x = Given.written(4, 3, 2, 1);
        x.back(1);
        x.read(9);
        Expect.same("4: hand before the stop", x.figure(7), 2);
        x.cut(1, 5L, 2);
        Expect.same("4: hand after the stop", x.figure(7), 0);
        Expect.same("4: order after the stop", Look.order(x), "3 2 1");
        Expect.same("4: what was not noted is gone", Look.block(x, 9), "-");
    }

    private static void promise5Mode() {
        WriteBackTier x = Given.written(4, 9, 2, 5);
        x.read(7);
        Expect.same("5: BACK again", x.mode(BACK), 0);
        Expect.same("5: all dirty still", x.figure(5), 3);
        x.back(1);
        Expect.same("5: THROUGH writes the rest back", x.mode(THROUGH), 2);
        Expect.same("5: the mode", x.figure(6), 1);
        Expect.same("5: the origin", x.origin(9) + 100 * x.origin(5), 5090L);
        Expect.same("5: noted clean, the read one not", Look.noted(x), "18 4 10 -1");
        Expect.same("5: order and hand stay", Look.order(x) + " hand " + x.figure(7), "7 5 2 9 hand 3");
        Expect.same("5: PAST has nothing to write back", x.mode(PAST), 0);
        Expect.same("5: PAST is the mode", x.figure(6), 2);
        Expect.same("5: back to BACK", x.mode(BACK), 0);
        x.write(7, 70L);
        Expect.same("5: PAST writes back too", x.mode(PAST), 1);
    }

    private static void promise6Back() {
        WriteBackTier x = Given.written(4, 30, 10, 20);
        x.read(5);
        Expect.same("6: none asked for", x.back(0), 0);
        Expect.same("6: none done", x.figure(5), 3);
        Expect.same("6: two of three", x.back(2), 2);
        Expect.same("6: the least blocks went", Look.noted(x), "61 20 40 -1");
        Expect.same("6: the hand is behind the last", x.figure(7), 21);
        Expect.same("6: the origin", x.origin(10) + x.origin(20), 300L);
        x.write(20, 21L);
        x.write(10, 11L);
        Expect.same("6: one, from the hand on", x.back(1), 1);
        Expect.same("6: it was 30", x.figure(7), 31);
        Expect.same("6: then from the least again", x.back(12), 2);
        Expect.same("6: the hand at last", x.figure(7), 21);
        Expect.same("6: none is left", x.back(12), 0);
        Expect.same("6: the hand stays", x.figure(7), 21);
        Expect.same("6: the order stays", Look.order(x), "10 20 5 30");
    }

    private static void promise6HandAtTheEnds() {
        WriteBackTier x = Given.written(3, 63, 0);
        Expect.same("6: block 0 first", x.back(1) * 100 + x.figure(7), 101);
        x.write(0, 1L);
        Expect.same("6: the block below the hand waits", x.back(1) * 100 + x.figure(7), 164);
        Expect.same("6: behind the last block", x.back(1) * 100 + x.figure(7), 101);
        x.write(1, 1L);
        Expect.same("6: the hand's own block counts", x.back(1) * 100 + x.figure(7), 102);
        x.crash();
        Expect.same("6: the hand after a stop", x.figure(7), 0);
        x = Given.written(12, 11, 10, 9, 8, 7, 6, 5, 4, 3, 2, 1, 0);
        Expect.same("6: twelve at once", x.back(12), 12);
        Expect.same("6: and the hand", x.figure(7), 12);
    }

    private static void promise7Check() {
        WriteBackTier x = Given.written(4, 1);
        Expect.same("7: nothing to note", x.check(), 0);
        x.read(2);
        x.read(3);
        Expect.same("7: two that were read", x.check(), 2);
        Expect.same("7: noted clean", Look.noted(x), "3 4 6 -1");
        Expect.same("7: how often noted", x.figure(3), 3);
        Expect.same("7: nothing more to note", x.check(), 0);
        Expect.same("7: nor noted", x.figure(3), 3);
        Expect.same("7: they outlive a stop", x.crash(), 3);
        WriteBackTier y = new WriteBackTier(2);
        y.read(63);
        y.read(0);
        Expect.same("7: all slots, from the first to the last", y.check() + " " + Look.noted(y), "2 126 0");
    }

    private static void promise8Crash() {
        WriteBackTier x = Given.written(5, 4, 3);
        x.read(9);
        x.write(2, 20L);
        x.mode(THROUGH);
        x.mode(BACK);
        x.write(3, 31L);
        x.back(0);
        x.mode(PAST);
        x.mode(BACK);
        x.write(4, 41L);
        x.back(1);
        x.write(2, 21L);
        Expect.same("8: how many stay", x.crash(), 3);
        Expect.same("8: the order is that of the slots", Look.order(x), "4 3 2");
        Expect.same("8: what was read is gone", Look.block(x, 9), "-");
        Expect.same("8: dirty and clean as noted", Look.noted(x), "8 6 -1 5 -1");
        Expect.same("8: as is so", Look.block(x, 4) + Look.block(x, 3) + Look.block(x, 2), "013*");
        Expect.same("8: the values stay", x.read(4) + x.read(3) + x.read(2), 93L);
        x.mode(PAST);
        x.crash();
        Expect.same("8: the mode is BACK", x.figure(6), 0);
        Expect.same("8: the figures go on", x.figure(0), 3);
        x.read(50);
        Expect.same("8: the empty slot in between is room", x.slot(50), 2);
        Expect.same("8: and is used", Look.order(x), "50 4 3 2");
        Expect.same("8: a new one has none", new WriteBackTier(3).crash(), 0);
        WriteBackTier y = Given.written(2, 1, 2);
        y.crash();
        y.write(3, 30L);
        Expect.same("8: after a stop the last slot makes room", Look.order(y), "3 1");
    }

    private static void promise9Lose() {
        WriteBackTier x = Given.written(4, 4, 3, 2);
        x.back(1);
        x.read(9);
        int noted = x.figure(3);
        Expect.same("9: how many were dirty", x.lose(), 2);
        Expect.same("9: all noted empty", Look.noted(x), "-1 -1 -1 -1");
        Expect.same("9: all empty", Look.order(x), "");
        Expect.same("9: that is not counted as noting", x.figure(3), noted);
        Expect.same("9: the origin stays", x.origin(2) + x.origin(3) + x.origin(4), 20L);
        Expect.same("9: the hand", x.figure(7), 0);
        Expect.same("9: no slot is dirty now", x.lose(), 0);
        x.mode(PAST);
        x.lose();
        Expect.same("9: the mode is BACK", x.figure(6), 0);
        Expect.same("9: a lost value is not read", x.read(3), 0L);
    }

    private static void promise10Slot() {
        WriteBackTier x = Given.written(3, 63, 0);
        Expect.same("10: slots", x.slot(63) + " " + x.slot(0) + " " + x.slot(1), "0 1 -1");
        x.read(1);
        Expect.same("10: a slot that is read into", x.slot(1), 2);
        Expect.same("10: asking is no use", Look.order(x), "1 0 63");
        x.lose();
        Expect.same("10: no slot after the loss", x.slot(63) + x.slot(0) + x.slot(1), -3);
    }

    private static void promise11Dirty() {
        WriteBackTier x = Given.written(3, 63);
        x.read(0);
        Expect.same("11: written", x.dirty(63), true);
        Expect.same("11: read", x.dirty(0), false);
        x.back(1);
        Expect.same("11: written back", x.dirty(63), false);
        Expect.same("11: asking is no use", Look.order(x), "0 63");
    }

    private static void promise12Origin() {
        WriteBackTier x = Given.written(2, 0, 63);
        Expect.same("12: not yet written back", x.origin(0) + x.origin(63), 0L);
        x.back(12);
        Expect.same("12: written back", x.origin(63), 630L);
        x.mode(PAST);
        x.write(0, Long.MAX_VALUE);
        x.write(1, Long.MIN_VALUE);
        Expect.same("12: the greatest value", x.origin(0), Long.MAX_VALUE);
        Expect.same("12: the least value", x.origin(1), Long.MIN_VALUE);
        Expect.same("12: asking is no miss", x.figure(1), 0);
    }

    private static void promise13Order() {
        WriteBackTier x = Given.written(3, 1, 2, 3);
        Expect.same("13: first", x.order(0), 3);
        Expect.same("13: last", x.order(2), 1);
        x.read(2);
        Expect.same("13: after a use in the middle", Look.order(x), "2 3 1");
        x.mode(PAST);
        x.write(3, 0L);
        Expect.same("13: without the middle one", Look.order(x), "2 1");
    }

    private static void promise14Noted() {
        WriteBackTier x = Given.written(12, 0, 63);
        x.read(5);
        Expect.same("14: dirty block 0", x.noted(0), 1);
        Expect.same("14: dirty block 63", x.noted(1), 127);
        Expect.same("14: not noted", x.noted(2), -1);
        x.back(12);
        Expect.same("14: clean block 0", x.noted(0), 0);
        Expect.same("14: clean block 63", x.noted(1), 126);
        Expect.same("14: the last slot", x.noted(11), -1);
    }

    private static void promise15Figure() {
        WriteBackTier x = Given.written(3, 1, 2);
        x.read(1);
        x.read(2);
        x.read(2);
        x.read(8);
        x.read(9);
        x.back(2);
        Expect.same("15: figures in BACK", Look.figures(x), "3 2 2 5 3 0 0 3");
        x.write(9, 1L);
        Expect.same("15: one is dirty", x.figure(5), 1);
        x.mode(PAST);
        x.write(50, 1L);
        Expect.same("15: figures in PAST", Look.figures(x), "3 2 4 7 3 0 2 3");
        x.crash();
        Expect.same("15: figures after a stop", Look.figures(x), "3 2 4 7 2 0 0 0");
    }
}

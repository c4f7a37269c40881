/** Promise 5: record. */
public final class Promise05RecordTest {
    private static final Due due = new Due("promise 5");

    public static void main(String[] args) {
        theFirstBytesOfTheBuffer();
        thePositionGrows();
        theClockBecomesTheTime();
        aCircularStoreFreesOnePage();
        aCircularStoreFreesTwoPages();
        aCircularStoreBelowItsQuotaFreesNone();
        thePageThatWasFreedIsOpenedAgain();
        onePageAfterTheOther();
        unconfirmedPacketsAreFreed();
        aBoundedStoreIsPruned();
        theNewPacketHoldsItsPage();
        aCircularStoreIsNotPruned();
        badStore();
        badSource();
        badLength();
        badTime();
        fullByOneWord();
        fullByTwoPages();
        fullBeforePruning();
        aCircularStoreIsNeverFull();
        due.end();
    }

    private static void theFirstBytesOfTheBuffer() {
        due.says("Records a packet with the first len bytes of the buffer");
        int[] lengths = {0, 1, 7, 8, 59, 60};
        for (int len : lengths) {
            ScrubbedRecorder x = Rig.withStore(true, 3);
            for (int i = 0; i < 60; i += 8) {
                x.put(i, 0x0807060504030201L + 0x0808080808080808L * (i / 8));
            }
            x.record(0, 9, 9, len);
            x.put(0, -1L);
            for (int i = 0; i < 60; i++) {
                due.is("byte " + i, x.packetByte(0, 0, 6 + i), i < len ? i + 1 : ScrubbedRecorder.NONE);
            }
        }
    }

    private static void thePositionGrows() {
        due.says("in a store, at its next position, which grows by 1");
        ScrubbedRecorder x = Rig.withStore(true, 3);
        x.makeStore(2, true, 3);
        for (int n = 0; n < 100; n++) {
            due.is("record", x.record(0, 1, 1, 30), n);
            due.is("next position", x.count(0, 2), n + 1);
        }
        due.is("another store has its own", x.record(2, 1, 1, 30), 0);
        due.says("Answers the position. BAD when");
        due.is("the position that tells it", x.packetByte(0, x.record(0, 77, 1, 0), 0), 77);
    }

    private static void theClockBecomesTheTime() {
        due.says("its clock becomes time.");
        ScrubbedRecorder x = Rig.withStore(true, 3);
        x.makeStore(1, true, 3);
        int[] times = {0, 0, 5, 5, 1000, Integer.MAX_VALUE, Integer.MAX_VALUE};
        for (int time : times) {
            x.record(0, 1, time, 0);
            due.is("clock", x.count(0, 4), time);
        }
        due.is("another store's clock", x.count(1, 4), 0);
    }

    private static void aCircularStoreFreesOnePage() {
        due.says("For each page that the packet needs, a circular store whose chain has as many pages as its quota frees its first page before it opens that one.");
        ScrubbedRecorder x = Rig.withPackets(true, 3, 3, Rig.PAGE);
        due.is("all are kept", x.count(0, 0), 3);
        Rig.recordMore(x, 0, 1, 0);
        due.is("the first is kept no more", x.seek(0, 0), 1);
        due.is("pages", x.count(0, 3), 3);
        Rig.recordMore(x, 0, 1, 36);
        due.is("11 words fill the page, none is freed", x.seek(0, 0), 1);
        Rig.recordMore(x, 0, 1, 0);
        due.is("the next frees one", x.seek(0, 0), 2);
        due.is("free pages", x.told(2), 37);
    }

    private static void aCircularStoreFreesTwoPages() {
        due.says("For each page that the packet needs, a circular store whose chain has as many pages as its quota frees its first page before it opens that one.");
        ScrubbedRecorder x = Rig.withPackets(true, 3, 3, Rig.PAGE);
        Rig.recordMore(x, 0, 1, 60);
        due.is("17 words in a full chain free two", x.seek(0, 0), 2);
        due.is("kept", x.count(0, 0), 2);
        Rig.recordMore(x, 0, 1, 24);
        due.is("8 words leave one", x.count(0, 0), 3);
        Rig.recordMore(x, 0, 1, 60);
        due.is("17 words, 1, 13 and 3, free two, with all that begins in them", x.seek(0, 0), 4);
        due.is("pages", x.count(0, 3), 3);

        ScrubbedRecorder y = Rig.withPackets(true, 3, 2, Rig.PAGE);
        Rig.recordMore(y, 0, 1, 60);
        due.is("with two pages of three, one is freed for the second page", y.seek(0, 0), 1);
        due.is("pages", y.count(0, 3), 3);
    }

    private static void aCircularStoreBelowItsQuotaFreesNone() {
        due.says("a circular store whose chain has as many pages as its quota");
        int[] quotas = {3, 4, 17, 40};
        for (int quota : quotas) {
            ScrubbedRecorder x = Rig.withPackets(true, quota, quota, Rig.PAGE);
            due.is("as many pages as the quota " + quota, x.count(0, 3), quota);
            due.is("all are kept", x.count(0, 0), quota);
            Rig.recordMore(x, 0, 1, Rig.PAGE);
            due.is("one page more", x.count(0, 3), quota);
            due.is("the first packet is gone", x.seek(0, 0), 1);
        }
    }

    /** Page 0 lies in module 1, page 3 in module 4: a flip there shows which of them is written. */
    private static void thePageThatWasFreedIsOpenedAgain() {
        due.says("frees its first page before it opens that one.");
        ScrubbedRecorder x = Rig.withPackets(true, 3, 3, Rig.PAGE);
        x.flip(1, 15, 0);
        x.flip(4, 15, 0);
        x.record(0, 3, 3, 0);
        due.is("one word is sound again", x.told(4), 1);
        due.is("it is the one of page 0", x.tick(2 * 128), 0);
        due.is("that of page 3 is not", x.tick(3 * 128), 1);

        ScrubbedRecorder y = Rig.withPackets(true, 40, 40, Rig.PAGE);
        due.is("no page is free", y.told(2), 0);
        due.is("so it must be freed before", y.record(0, 1, 99, 60), 40);
        due.is("kept", y.count(0, 0), 39);
    }

    /**
     * The chain is the pages 2, 0, 1. For 17 words page 2 is freed and opened, and then page 0, so
     * that the words behind them are in page 0, in module 1; were both freed first, and then opened,
     * they would be in page 2, in module 3.
     */
    private static void onePageAfterTheOther() {
        due.says("For each page that the packet needs, a circular store whose chain has as many pages as its quota frees its first page before it opens that one.");
        ScrubbedRecorder x = Rig.withPackets(true, 3, 5, Rig.PAGE);
        Rig.recordMore(x, 0, 1, 60);
        for (int module = 1; module < 6; module++) {
            x.flip(module, 7, 0);
        }
        Rig.recordMore(x, 0, 1, 0);
        int[] flipped = Rig.flippedByModule(x);
        for (int module = 1; module < 6; module++) {
            due.is("flipped in module " + module, flipped[module], module == 1 ? 0 : 1);
        }
    }

    private static void unconfirmedPacketsAreFreed() {
        due.says("frees its first page before it opens that one.");
        ScrubbedRecorder x = Rig.withPackets(true, 3, 3, Rig.PAGE);
        x.confirm(0, 1, 2);
        Rig.recordMore(x, 0, 1, 0);
        due.is("kept", x.seek(0, 0), 1);
        due.is("confirmed", x.count(0, 1), 2);
    }

    private static void aBoundedStoreIsPruned() {
        due.says("Behind that a bounded one is pruned.");
        ScrubbedRecorder x = Rig.withPackets(false, 3, 1, Rig.PAGE);
        x.confirm(0, 0, 0);
        due.is("the only page stays", x.count(0, 0), 1);
        due.is("record", x.record(0, 2, 2, 0), 1);
        due.is("the page with the confirmed packet is freed", x.count(0, 3), 1);
        due.is("kept", x.count(0, 0), 1);
        due.is("it is the new one", x.seek(0, 0), 1);
    }

    private static void theNewPacketHoldsItsPage() {
        due.says("Behind that a bounded one is pruned.");
        ScrubbedRecorder x = Rig.withPackets(false, 3, 1, 40);
        x.confirm(0, 0, 0);
        x.record(0, 2, 2, 0);
        due.is("the new packet begins in the first page", x.count(0, 3), 2);
        due.is("both are kept", x.count(0, 0), 2);
    }

    private static void aCircularStoreIsNotPruned() {
        due.says("Behind that a bounded one is pruned.");
        ScrubbedRecorder x = Rig.withPackets(true, 3, 1, Rig.PAGE);
        x.confirm(0, 0, 0);
        x.record(0, 2, 2, 0);
        due.is("pages", x.count(0, 3), 2);
        due.is("kept", x.count(0, 0), 2);
    }

    private static void badStore() {
        due.says("BAD when the store is not made, source is not 0 .. 255, len not 0 .. 60, or time is less than the clock");
        ScrubbedRecorder x = Rig.withStore(true, 3);
        int[] wrong = {-1, 1, 2, 3, 4, Integer.MIN_VALUE, Integer.MAX_VALUE};
        for (int k : wrong) {
            due.is("store " + k, x.record(k, 1, 1, 1), ScrubbedRecorder.BAD);
        }
        due.is("made", x.record(0, 1, 1, 1), 0);
        x.dropStore(0);
        due.is("dropped", x.record(0, 1, 1, 1), ScrubbedRecorder.BAD);
    }

    private static void badSource() {
        due.says("BAD when the store is not made, source is not 0 .. 255, len not 0 .. 60, or time is less than the clock");
        ScrubbedRecorder x = Rig.withStore(true, 3);
        int[] wrong = {-1, 256, 257, Integer.MIN_VALUE, Integer.MAX_VALUE};
        for (int source : wrong) {
            due.is("source " + source, x.record(0, source, 1, 1), ScrubbedRecorder.BAD);
        }
        due.is("no page was opened", x.count(0, 3), 0);
        due.is("source 0", x.record(0, 0, 1, 1), 0);
        due.is("source 255", x.record(0, 255, 1, 1), 1);
    }

    private static void badLength() {
        due.says("BAD when the store is not made, source is not 0 .. 255, len not 0 .. 60, or time is less than the clock");
        ScrubbedRecorder x = Rig.withStore(true, 3);
        int[] wrong = {-1, -4, 61, 64, Integer.MIN_VALUE, Integer.MAX_VALUE};
        for (int len : wrong) {
            due.is("len " + len, x.record(0, 1, 1, len), ScrubbedRecorder.BAD);
        }
        due.is("no page was opened", x.count(0, 3), 0);
        due.is("len 0", x.record(0, 1, 1, 0), 0);
        due.is("len 60", x.record(0, 1, 1, 60), 1);
    }

    private static void badTime() {
        due.says("BAD when the store is not made, source is not 0 .. 255, len not 0 .. 60, or time is less than the clock");
        ScrubbedRecorder x = Rig.withStore(true, 3);
        due.is("time -1", x.record(0, 1, -1, 1), ScrubbedRecorder.BAD);
        due.is("least int", x.record(0, 1, Integer.MIN_VALUE, 1), ScrubbedRecorder.BAD);
        due.is("time 10", x.record(0, 1, 10, 0), 0);
        due.is("below the clock", x.record(0, 1, 9, 0), ScrubbedRecorder.BAD);
        due.is("the clock stays", x.count(0, 4), 10);
        due.is("the same time", x.record(0, 1, 10, 0), 1);
        due.is("greatest int", x.record(0, 1, Integer.MAX_VALUE, 0), 2);
        due.is("below that", x.record(0, 1, Integer.MAX_VALUE - 1, 0), ScrubbedRecorder.BAD);
        due.is("that again", x.record(0, 1, Integer.MAX_VALUE, 0), 3);
    }

    /** Three pages have 39 words for packets. */
    private static void fullByOneWord() {
        due.says("FULL when a bounded store's chain would have more pages than its quota.");
        ScrubbedRecorder x = Rig.withStore(false, 3);
        due.is("17 words", x.record(0, 1, 1, 60), 0);
        due.is("17 words", x.record(0, 1, 2, 57), 1);
        due.is("6 words: one too many", x.record(0, 1, 3, 13), ScrubbedRecorder.FULL);
        due.is("the clock stays", x.count(0, 4), 2);
        due.is("the next position stays", x.count(0, 2), 2);
        due.is("5 words: just fit", x.record(0, 1, 3, 12), 2);
        due.is("no words are left", x.record(0, 1, 3, 0), ScrubbedRecorder.FULL);
        due.is("pages", x.count(0, 3), 3);
        due.is("kept", x.count(0, 0), 3);
    }

    private static void fullByTwoPages() {
        due.says("FULL when a bounded store's chain would have more pages than its quota.");
        ScrubbedRecorder x = Rig.withPackets(false, 4, 3, Rig.PAGE);
        due.is("14 words would open two pages, and only one is left", x.record(0, 1, 9, 45), ScrubbedRecorder.FULL);
        due.is("no page was opened", x.count(0, 3), 3);
        due.is("free pages", x.told(2), 37);
        due.is("13 words open one", x.record(0, 1, 9, 44), 3);
    }

    /** The chain counts as it stands when the packet is in it, whatever pruning would free then. */
    private static void fullBeforePruning() {
        due.says("FULL when a bounded store's chain would have more pages than its quota.");
        ScrubbedRecorder x = Rig.withPackets(false, 3, 3, Rig.PAGE);
        due.is("full", x.record(0, 1, 9, 0), ScrubbedRecorder.FULL);
        x.confirm(0, 1, 2);
        due.is("an unconfirmed first packet holds all", x.record(0, 1, 9, 0), ScrubbedRecorder.FULL);
        x.confirm(0, 0, 0);
        due.is("pages", x.count(0, 3), 1);
        due.is("there is room for two pages", x.record(0, 1, 9, 60), 3);
        due.is("and the confirmed first one is freed behind that", x.count(0, 3), 2);
        due.is("there is room for 9 and 13 words", x.record(0, 1, 9, 60), 4);
        due.is("6 words: one too many", x.record(0, 1, 9, 16), ScrubbedRecorder.FULL);
    }

    private static void aCircularStoreIsNeverFull() {
        due.says("FULL when a bounded store's chain would have more pages than its quota.");
        ScrubbedRecorder x = Rig.withStore(true, 3);
        x.makeStore(1, false, 37);
        Rig.recordMore(x, 1, 37, Rig.PAGE);
        for (int n = 0; n < 200; n++) {
            due.is("record", x.record(0, 1, 1, n % 61), n);
        }
        due.is("no page is free", x.told(2), 0);
        due.is("the bounded store has kept all", x.count(1, 0), 37);
    }
}

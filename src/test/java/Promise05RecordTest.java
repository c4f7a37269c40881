/** Promise 5: record. */
public final class Promise05RecordTest {
    private static final Due due = new Due("promise 5");

    public static void main(String[] args) {
        wrongInputs();
        aBoundedStoreGetsFull();
        aPacketThatJustFits();
        aCircularStoreFreesFirst();
        thePageThatWasFreedIsOpenedAgain();
        aBoundedStoreIsPrunedBehindIt();
        writingMakesWordsSound();
        openingWritesAllWords();
        allPagesCanBeOpened();
        due.end();
    }

    private static void wrongInputs() {
        ScrubbedRecorder x = new ScrubbedRecorder();
        due.is("not made", x.record(0, 1, 1, 1), ScrubbedRecorder.BAD);
        due.is("k -1", x.record(-1, 1, 1, 1), ScrubbedRecorder.BAD);
        due.is("k 4", x.record(4, 1, 1, 1), ScrubbedRecorder.BAD);
        x.makeStore(0, false, 3);
        due.is("source -1", x.record(0, -1, 1, 1), ScrubbedRecorder.BAD);
        due.is("source 256", x.record(0, 256, 1, 1), ScrubbedRecorder.BAD);
        due.is("len -1", x.record(0, 1, 1, -1), ScrubbedRecorder.BAD);
        due.is("len 61", x.record(0, 1, 1, 61), ScrubbedRecorder.BAD);
        due.is("time -1", x.record(0, 1, -1, 1), ScrubbedRecorder.BAD);
        due.is("nothing was recorded", x.count(0, 2), 0);
        due.is("no page was opened", x.count(0, 3), 0);
        due.is("source 0, time 0, len 0", x.record(0, 0, 0, 0), 0);
        due.is("source 255, greatest time, len 60", x.record(0, 255, Integer.MAX_VALUE, 60), 1);
        due.is("time below the clock", x.record(0, 1, Integer.MAX_VALUE - 1, 0), ScrubbedRecorder.BAD);
        due.is("the same time again", x.record(0, 1, Integer.MAX_VALUE, 0), 2);
        due.is("the clock", x.count(0, 4), Integer.MAX_VALUE);
        due.is("next position", x.count(0, 2), 3);
    }

    /** Three pages have 39 words for packets. */
    private static void aBoundedStoreGetsFull() {
        ScrubbedRecorder x = new ScrubbedRecorder();
        x.makeStore(0, false, 3);
        due.is("17 words", x.record(0, 1, 1, 60), 0);
        due.is("17 words", x.record(0, 1, 2, 57), 1);
        due.is("pages", x.count(0, 3), 3);
        due.is("6 words: one too many", x.record(0, 1, 3, 13), ScrubbedRecorder.FULL);
        due.is("BAD stands before FULL", x.record(0, 256, 3, 13), ScrubbedRecorder.BAD);
        due.is("refused: the clock", x.count(0, 4), 2);
        due.is("refused: the next position", x.count(0, 2), 2);
        due.is("5 words: just fit", x.record(0, 1, 3, 12), 2);
        due.is("no words are left", x.record(0, 1, 3, 0), ScrubbedRecorder.FULL);
        due.is("pages at the end", x.count(0, 3), 3);
        due.is("kept", x.count(0, 0), 3);
    }

    private static void aPacketThatJustFits() {
        ScrubbedRecorder x = new ScrubbedRecorder();
        x.makeStore(0, false, 3);
        x.record(0, 1, 1, 44);
        due.is("13 words fill a page", x.count(0, 3), 1);
        x.record(0, 1, 1, 0);
        due.is("the next opens one", x.count(0, 3), 2);
        x.record(0, 1, 1, 36);
        due.is("11 more fill it", x.count(0, 3), 2);
        x.record(0, 1, 1, 41);
        due.is("13 fill the last one", x.count(0, 3), 3);
        due.is("nothing fits", x.record(0, 1, 1, 0), ScrubbedRecorder.FULL);
    }

    private static void aCircularStoreFreesFirst() {
        ScrubbedRecorder x = new ScrubbedRecorder();
        x.makeStore(0, true, 3);
        for (int n = 0; n < 3; n++) {
            due.is("13 words", x.record(0, n, n, 44), n);
        }
        due.is("all are kept", x.count(0, 0), 3);
        due.is("two words", x.record(0, 3, 3, 0), 3);
        due.is("the first is kept no more", x.packetByte(0, 0, 0), ScrubbedRecorder.NONE);
        due.is("the second is", x.packetByte(0, 1, 0), 1);
        due.is("pages", x.count(0, 3), 3);
        due.is("17 words, in the rest and one page", x.record(0, 4, 4, 60), 4);
        due.is("the second is kept no more", x.packetByte(0, 1, 0), ScrubbedRecorder.NONE);
        due.is("the third is", x.packetByte(0, 2, 0), 2);
        due.is("17 words, in the rest and one page", x.record(0, 5, 5, 60), 5);
        due.is("the third is not", x.packetByte(0, 2, 0), ScrubbedRecorder.NONE);
        due.is("kept from 3 on", x.count(0, 0), 3);
        due.is("17 words, in the rest and two pages", x.record(0, 6, 6, 60), 6);
        due.is("two pages were freed, only the newest is kept", x.seek(0, 0), 6);
        due.is("pages stay as many", x.count(0, 3), 3);
        due.is("free pages", x.told(2), 37);
    }

    /** Page 0 lies in module 1, page 3 in module 4: a flip there shows which of them is written. */
    private static void thePageThatWasFreedIsOpenedAgain() {
        ScrubbedRecorder x = new ScrubbedRecorder();
        x.makeStore(0, true, 3);
        for (int n = 0; n < 3; n++) {
            x.record(0, n, n, 44);
        }
        x.flip(1, 15, 0);
        x.flip(4, 15, 0);
        x.record(0, 3, 3, 0);
        due.is("one word is sound again", x.told(4), 1);
        x.tick(129 + 128);
        due.is("it is the one of page 0", x.told(0), 0);
        x.tick(768);
        due.is("that of page 3 is not", x.told(0), 1);
    }

    private static void aBoundedStoreIsPrunedBehindIt() {
        ScrubbedRecorder x = new ScrubbedRecorder();
        x.makeStore(0, false, 3);
        x.record(0, 1, 1, 44);
        x.confirm(0, 0, 0);
        due.is("the only page stays", x.count(0, 0), 1);
        due.is("record", x.record(0, 2, 2, 0), 1);
        due.is("the page with the confirmed packet is freed", x.count(0, 3), 1);
        due.is("kept", x.count(0, 0), 1);

        ScrubbedRecorder y = new ScrubbedRecorder();
        y.makeStore(0, false, 3);
        y.record(0, 1, 1, 40);
        y.confirm(0, 0, 0);
        y.record(0, 2, 2, 0);
        due.is("the new packet begins in the first page", y.count(0, 3), 2);
        due.is("both are kept", y.count(0, 0), 2);

        ScrubbedRecorder z = new ScrubbedRecorder();
        z.makeStore(0, true, 3);
        z.record(0, 1, 1, 44);
        z.confirm(0, 0, 0);
        z.record(0, 2, 2, 0);
        due.is("a circular store is not pruned", z.count(0, 3), 2);
    }

    /** Pages 0 and 5 to 9: page 5 lies in module 0, the parity of its row in module 1. */
    private static void writingMakesWordsSound() {
        ScrubbedRecorder x = new ScrubbedRecorder();
        x.makeStore(0, false, 40);
        x.record(0, 1, 1, 0);
        x.flip(1, 5, 1);
        x.flip(1, 6, 1);
        x.flip(0, 5, 1);
        x.flip(0, 7, 1);
        x.flip(2, 5, 1);
        due.is("refused", x.record(0, 256, 1, 0), ScrubbedRecorder.BAD);
        due.is("a refused call writes nothing", x.told(4), 5);
        x.record(0, 1, 1, 0);
        due.is("words 5 and 6 and parity 5 are sound", x.told(4), 2);

        ScrubbedRecorder y = new ScrubbedRecorder();
        y.makeStore(0, false, 40);
        for (int n = 0; n < 5; n++) {
            y.record(0, 1, 1, 44);
        }
        y.record(0, 1, 1, 0);
        y.flip(0, 21, 0);
        y.flip(1, 21, 0);
        y.flip(2, 21, 0);
        y.record(0, 1, 1, 0);
        due.is("page 5 is in module 0, with its parity in module 1", y.told(4), 1);
    }

    private static void openingWritesAllWords() {
        ScrubbedRecorder x = new ScrubbedRecorder();
        x.makeStore(0, true, 3);
        for (int word = 0; word < 17; word++) {
            x.flip(0, word, 38);
            x.flip(1, word, 38);
            x.flip(2, word, 38);
        }
        x.record(0, 1, 1, 0);
        due.is("all of page 0 and its parity", x.told(4), 51 - 32);
    }

    private static void allPagesCanBeOpened() {
        ScrubbedRecorder x = new ScrubbedRecorder();
        x.makeStore(0, false, 37);
        x.makeStore(1, true, 3);
        for (int n = 0; n < 40; n++) {
            due.is("13 words", x.record(n < 3 ? 1 : 0, n, n, 44), n < 3 ? n : n - 3);
        }
        due.is("free pages", x.told(2), 0);
        due.is("the bounded store is full", x.record(0, 1, 40, 0), ScrubbedRecorder.FULL);
        due.is("the circular one frees a page", x.record(1, 1, 40, 0), 3);
        due.is("free pages", x.told(2), 0);
        due.is("pages", x.count(0, 3), 37);
        due.is("kept", x.count(0, 0), 37);
        due.is("pages", x.count(1, 3), 3);
        due.is("kept", x.count(1, 0), 3);
    }
}

/** The document's terms, the paragraphs on stores, packets and their pages. */
public final class TermsPacketsTest {
    private static final Due due = new Due("terms, packets");

    public static void main(String[] args) {
        noStoreIsMadeAtFirst();
        madeAgain();
        madeAgainForgetsWhatWasSaved();
        atFirstInAStore();
        freePages();
        leastAndMostOfAPacket();
        wordsOfAPacket();
        wordsThreeToFifteen();
        oneBehindTheOther();
        aFullPage();
        theLeastFreePage();
        openingWritesAllWords();
        keptByItsFirstWord();
        keptWithItsWholeTail();
        freeingByRecording();
        freeingByPruning();
        freeingByDropping();
        due.end();
    }

    private static void noStoreIsMadeAtFirst() {
        due.says("The STORES 0 .. 3 are MADE or not (at first none is; one that is made again is as if it had never been).");
        ScrubbedRecorder x = new ScrubbedRecorder();
        for (int k = -1; k < 5; k++) {
            due.is("count of " + k, x.count(k, 0), ScrubbedRecorder.BAD);
            due.no("dropStore of " + k, x.dropStore(k));
        }
        for (int k = 0; k < 4; k++) {
            due.is("makeStore of " + k, x.makeStore(k, true, 10), 30 - 10 * k);
        }
    }

    private static void madeAgain() {
        due.says("The STORES 0 .. 3 are MADE or not (at first none is; one that is made again is as if it had never been).");
        ScrubbedRecorder x = Rig.withPackets(false, 3, 3, Rig.PAGE);
        x.confirm(0, 1, 1);
        x.gap(0, 0);
        x.play(0, 0, 99, 0);
        x.dropStore(0);
        x.makeStore(0, true, 4);
        for (int what = 0; what < 6; what++) {
            due.is("count " + what, x.count(0, what), 0);
        }
        due.is("packetByte", x.packetByte(0, 0, 0), ScrubbedRecorder.NONE);
        due.is("seek", x.seek(0, 0), ScrubbedRecorder.NONE);
        for (int n = 0; n < 6; n++) {
            due.is("it is circular now", x.record(0, n, 0, Rig.PAGE), n);
        }
        due.is("with four pages", x.count(0, 3), 4);
        due.is("its packets begin in new pages", x.count(0, 0), 4);
        due.is("its old playback is not open", x.frame(), ScrubbedRecorder.NONE);
    }

    private static void madeAgainForgetsWhatWasSaved() {
        due.says("The STORES 0 .. 3 are MADE or not (at first none is; one that is made again is as if it had never been).");
        ScrubbedRecorder x = Rig.withPackets(true, 3, 2, 0);
        x.confirm(0, 0, 1);
        x.checkpoint(100);
        x.dropStore(0);
        x.makeStore(0, true, 3);
        Rig.recordMore(x, 0, 2, 0);
        x.confirm(0, 1, 1);
        x.reset();
        due.is("confirmed", x.count(0, 1), 0);
    }

    private static void atFirstInAStore() {
        due.says("A store is CIRCULAR or BOUNDED, has a QUOTA of pages, a CHAIN of pages, at first without any, a NEXT position, at first 0, and a CLOCK, at first 0.");
        for (int k = 0; k < 4; k++) {
            ScrubbedRecorder x = new ScrubbedRecorder();
            x.makeStore(k, k % 2 == 0, 3);
            due.is("pages", x.count(k, 3), 0);
            due.is("free pages", x.told(2), 40);
            due.is("next position", x.count(k, 2), 0);
            due.is("clock", x.count(k, 4), 0);
            due.is("a time below the clock", x.record(k, 1, -1, 0), ScrubbedRecorder.BAD);
            due.is("the time of the clock", x.record(k, 1, 0, 0), 0);
        }
    }

    private static void freePages() {
        due.says("Pages that are in no chain are FREE.");
        ScrubbedRecorder x = Rig.withStore(true, 3);
        x.makeStore(1, false, 37);
        due.is("a quota takes none", x.told(2), 40);
        Rig.recordMore(x, 0, 5, Rig.PAGE);
        due.is("three are in a chain", x.told(2), 37);
        Rig.recordMore(x, 1, 37, Rig.PAGE);
        due.is("all are in chains", x.told(2), 0);
        x.confirm(1, 0, 1);
        due.is("two are pruned", x.told(2), 2);
        x.dropStore(0);
        due.is("three are dropped", x.told(2), 5);
        x.dropStore(1);
        due.is("none is in a chain", x.told(2), 40);
    }

    private static void leastAndMostOfAPacket() {
        due.says("A PACKET has a POSITION in its store, a SOURCE 0 .. 255, a TIME, and 0 .. 60 BYTES.");
        ScrubbedRecorder x = Rig.withStore(true, 10);
        x.makeStore(1, true, 10);
        due.is("the least", x.record(0, 0, 0, 0), 0);
        due.is("the most", x.record(0, 255, Integer.MAX_VALUE, 60), 1);
        due.is("each store has its own positions", x.record(1, 7, 7, 7), 0);
        due.is("source", x.packetByte(0, 0, 0), 0);
        due.is("bytes", x.packetByte(0, 0, 5), 0);
        due.is("source", x.packetByte(0, 1, 0), 255);
        due.is("time", x.packetByte(0, 1, 1), 127);
        due.is("bytes", x.packetByte(0, 1, 5), 60);
        due.is("source", x.packetByte(1, 0, 0), 7);
    }

    /** Thirteen packets of w words take 13 * w words, and these are just w pages. */
    private static void wordsOfAPacket() {
        due.says("It takes two words, and one more for each four of its bytes (the last of these perhaps for fewer).");
        int[] words = {2, 3, 3, 3, 3, 4, 4, 4, 4, 5, 5, 5, 5, 6, 6, 6, 6, 7, 7, 7, 7, 8, 8, 8, 8, 9, 9, 9, 9,
            10, 10, 10, 10, 11, 11, 11, 11, 12, 12, 12, 12, 13, 13, 13, 13, 14, 14, 14, 14, 15, 15, 15, 15,
            16, 16, 16, 16, 17, 17, 17, 17};
        for (int len = 0; len <= 60; len++) {
            ScrubbedRecorder x = Rig.withPackets(false, 40, 13, len);
            due.is("pages for 13 packets of " + len + " bytes", x.count(0, 3), words[len]);
            x.record(0, 1, 99, 0);
            due.is("they are full", x.count(0, 3), words[len] + 1);
        }
    }

    /** Page 0 is the row 0 of module 1; its words 3 and 4 are taken by the first packet. */
    private static void wordsThreeToFifteen() {
        due.says("into the words 3 .. 15 of the last page of the chain, as long as there are some");
        ScrubbedRecorder x = Rig.withPackets(true, 3, 1, 0);
        for (int word = 0; word < 16; word++) {
            x.flip(1, word, 0);
        }
        x.record(0, 1, 1, 0);
        due.is("words 5 and 6", x.told(4), 14);
        x.record(0, 1, 1, 28);
        due.is("words 7 .. 15", x.told(4), 5);
        due.is("no page is opened for that", x.count(0, 3), 1);
        x.record(0, 1, 1, 0);
        due.is("words 0 .. 4 are not written again", x.told(4), 5);
        due.is("a page is opened", x.count(0, 3), 2);
    }

    /** Twelve words leave one in page 0; page 1 is the row 0 of module 2. */
    private static void oneBehindTheOther() {
        due.says("They are written one after the other behind those of the packet before");
        ScrubbedRecorder x = Rig.withPackets(true, 3, 1, 40);
        x.flip(1, 15, 0);
        x.flip(1, 14, 0);
        x.record(0, 1, 1, 0);
        due.is("its first word is the last of page 0", x.told(4), 1);
        due.is("for the other a page is opened", x.count(0, 3), 2);
        for (int word = 2; word < 8; word++) {
            x.flip(2, word, 0);
        }
        x.record(0, 1, 1, 1);
        due.is("the next has the words 4 .. 6 of page 1", x.told(4), 4);
        x.reset();
        due.is("up to word 14 of page 0", x.tick(128 + 15), 1);
        due.is("the rest of module 1", x.tick(113), 0);
        due.is("words 0 .. 3 of page 1", x.tick(4), 2);
        due.is("words 4 .. 6", x.tick(3), 0);
        due.is("word 7", x.tick(1), 1);
    }

    private static void aFullPage() {
        due.says("as long as there are some, then into those of a page that is OPENED for that");
        ScrubbedRecorder x = Rig.withPackets(true, 10, 1, 60);
        due.is("17 words: 13 and 4", x.count(0, 3), 2);
        x.record(0, 1, 1, 28);
        due.is("9 words fill the second", x.count(0, 3), 2);
        x.record(0, 1, 1, 0);
        due.is("2 words open a third", x.count(0, 3), 3);
        x.record(0, 1, 1, 32);
        due.is("10 words leave one", x.count(0, 3), 3);
        x.record(0, 1, 1, 60);
        due.is("17 words: 1, 13 and 3", x.count(0, 3), 5);
    }

    /** Page 0 is in module 1, page 2 in module 3, page 3 in module 4. */
    private static void theLeastFreePage() {
        due.says("the free page with the least number comes to the end of the chain");
        ScrubbedRecorder x = Rig.withStore(true, 10);
        x.makeStore(1, true, 10);
        x.record(1, 0, 0, Rig.PAGE);
        x.record(0, 0, 0, Rig.PAGE);
        x.record(1, 0, 0, Rig.PAGE);
        x.dropStore(1);
        int[] modules = {1, 3, 4};
        for (int module : modules) {
            x.flip(module, 15, 0);
        }
        for (int n = 0; n < 3; n++) {
            x.record(0, 0, 0, Rig.PAGE);
            due.is("flipped words", x.told(4), 2 - n);
            for (int later = n + 1; later < 3; later++) {
                due.yes("back", x.flip(modules[later], 15, 0));
            }
            due.is("it was the page in module " + modules[n], x.told(4), 0);
            for (int later = n + 1; later < 3; later++) {
                x.flip(modules[later], 15, 0);
            }
        }
    }

    private static void openingWritesAllWords() {
        due.says("and all its 16 words are written.");
        ScrubbedRecorder x = Rig.withStore(true, 3);
        for (int word = 0; word < 17; word++) {
            x.flip(0, word, 38);
            x.flip(1, word, 38);
            x.flip(2, word, 38);
        }
        x.record(0, 1, 1, 0);
        int[] want = {1, 1, 17, 0, 0, 0};
        int[] flipped = Rig.flippedByModule(x);
        for (int module = 0; module < 6; module++) {
            due.is("flipped in module " + module, flipped[module], want[module]);
        }
    }

    private static void keptByItsFirstWord() {
        due.says("A packet BEGINS in the page in which its first word lies, and is KEPT as long as that page is in the chain.");
        ScrubbedRecorder x = Rig.withPackets(true, 3, 1, 40);
        x.record(0, 11, 1, 0);
        due.is("its first word is the last of the first page", x.count(0, 3), 2);
        x.record(0, 12, 2, 40);
        x.record(0, 13, 3, Rig.PAGE);
        due.is("three pages, all full", x.count(0, 3), 3);
        due.is("kept so far", x.packetByte(0, 1, 0), 11);
        x.record(0, 14, 4, 0);
        due.is("the first page is freed, and it with that", x.packetByte(0, 1, 0), ScrubbedRecorder.NONE);
        due.is("the one behind it is kept", x.packetByte(0, 2, 0), 12);
        due.is("kept", x.count(0, 0), 3);
    }

    /** 1 word in page 0, 13 in page 1 and 3 in page 2; the quota lets it keep all three at first. */
    private static void keptWithItsWholeTail() {
        due.says("A packet BEGINS in the page in which its first word lies, and is KEPT as long as that page is in the chain.");
        ScrubbedRecorder x = Rig.withPackets(true, 3, 1, 40);
        x.record(0, 21, 1, 60);
        due.is("three pages", x.count(0, 3), 3);
        x.record(0, 22, 2, 32);
        due.is("still three, both are kept", x.count(0, 0), 3);
        x.record(0, 23, 3, 0);
        due.is("with the first page it is gone, not its other two", x.packetByte(0, 1, 0), ScrubbedRecorder.NONE);
        due.is("kept", x.seek(0, 0), 2);
        Rig.recordMore(x, 0, 1, 36);
        Rig.recordMore(x, 0, 1, Rig.PAGE);
        due.is("the page in which none begins is freed alone", x.seek(0, 0), 2);
        Rig.recordMore(x, 0, 1, Rig.PAGE);
        due.is("then that of its end and the next packet", x.seek(0, 0), 3);
    }

    /** Page 0 is free again when page 1, in module 2, is freed: so page 1 is not opened behind that. */
    private static void freeingByRecording() {
        due.says("FREEING the first page of a chain: it is in the chain no more (so the packets that begin in it are kept no more), and its word 0 is written.");
        ScrubbedRecorder x = Rig.withStore(true, 3);
        x.makeStore(1, true, 3);
        x.record(1, 0, 0, 0);
        Rig.recordMore(x, 0, 3, Rig.PAGE);
        x.dropStore(1);
        for (int word = 0; word < 16; word++) {
            x.flip(2, word, 0);
            x.flip(3, word, 0);
        }
        x.record(0, 3, 3, 0);
        due.is("word 0 of page 1 alone", x.told(4), 31);
        due.is("kept", x.count(0, 0), 3);
        due.is("the least", x.seek(0, 0), 1);
        x.reset();
        due.is("it is word 0 of module 2", x.tick(128 + 128 + 1), 0);
        due.is("word 1 is as it was", x.tick(1), 1);
    }

    private static void freeingByPruning() {
        due.says("FREEING the first page of a chain: it is in the chain no more (so the packets that begin in it are kept no more), and its word 0 is written.");
        ScrubbedRecorder x = Rig.withPackets(false, 4, 3, Rig.PAGE);
        for (int module = 0; module < 6; module++) {
            x.flip(module, 0, 0);
            x.flip(module, 1, 0);
        }
        x.confirm(0, 0, 1);
        due.is("pages", x.count(0, 3), 1);
        due.is("kept", x.count(0, 0), 1);
        int[] want = {1, 1, 1, 2, 2, 2};
        int[] flipped = Rig.flippedByModule(x);
        for (int module = 0; module < 6; module++) {
            due.is("flipped in module " + module, flipped[module], want[module]);
        }
    }

    private static void freeingByDropping() {
        due.says("FREEING the first page of a chain: it is in the chain no more (so the packets that begin in it are kept no more), and its word 0 is written.");
        ScrubbedRecorder x = Rig.withPackets(false, 40, 6, Rig.PAGE);
        for (int module = 0; module < 6; module++) {
            x.flip(module, 0, 0);
            x.flip(module, 1, 0);
            x.flip(module, 16, 0);
            x.flip(module, 17, 0);
        }
        x.dropStore(0);
        int[] want = {2, 2, 3, 3, 3, 3};
        int[] flipped = Rig.flippedByModule(x);
        for (int module = 0; module < 6; module++) {
            due.is("flipped in module " + module, flipped[module], want[module]);
        }
    }
}

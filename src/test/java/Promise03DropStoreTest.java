/** Promise 3: dropStore. */
public final class Promise03DropStoreTest {
    private static final Due due = new Due("promise 3");

    public static void main(String[] args) {
        pagesAreFreed();
        anEmptyStore();
        allPages();
        freeingWritesWordZero();
        playbacksAreClosed();
        itSavesAll();
        otherStoresStay();
        refused();
        due.end();
    }

    private static void pagesAreFreed() {
        due.says("A store is made no more: its pages are freed, the first one first");
        ScrubbedRecorder x = Rig.withPackets(true, 3, 1, 60);
        x.makeStore(1, true, 3);
        x.record(1, 8, 1, 60);
        x.play(0, 0, 9, 0);
        x.frame();
        due.is("free pages before", x.told(2), 36);
        due.yes("dropStore", x.dropStore(0));
        due.is("it is not made", x.count(0, 0), ScrubbedRecorder.BAD);
        due.is("free pages behind", x.told(2), 38);
        due.is("the packet is kept no more", x.packetByte(0, 0, 0), ScrubbedRecorder.NONE);
        due.is("the other store's is", x.packetByte(1, 0, 0), 8);
        due.is("the frame stays", x.frameByte(10), 60);
    }

    private static void anEmptyStore() {
        due.says("A store is made no more: its pages are freed, the first one first");
        ScrubbedRecorder x = Rig.withStore(false, 40);
        due.yes("dropStore", x.dropStore(0));
        due.is("it is not made", x.count(0, 0), ScrubbedRecorder.BAD);
        due.is("free pages", x.told(2), 40);
        due.is("its quota is promised to none", x.makeStore(1, true, 40), 0);
    }

    private static void allPages() {
        due.says("A store is made no more: its pages are freed, the first one first");
        ScrubbedRecorder x = Rig.withPackets(false, 40, 40, Rig.PAGE);
        due.is("free pages before", x.told(2), 0);
        due.yes("dropStore", x.dropStore(0));
        due.is("free pages behind", x.told(2), 40);
        x.makeStore(0, false, 40);
        Rig.recordMore(x, 0, 40, Rig.PAGE);
        due.is("all can be opened again", x.count(0, 3), 40);
    }

    private static void freeingWritesWordZero() {
        due.says("A store is made no more: its pages are freed, the first one first");
        ScrubbedRecorder x = Rig.withPackets(true, 3, 1, 60);
        x.flip(1, 0, 5);
        x.flip(2, 0, 5);
        x.flip(0, 0, 5);
        x.flip(3, 0, 5);
        x.flip(1, 1, 5);
        x.flip(0, 3, 5);
        due.is("flipped words before", x.told(4), 6);
        x.dropStore(0);
        due.is("words 0 of pages 0, 1 and of the parity are sound", x.told(4), 3);
    }

    private static void playbacksAreClosed() {
        due.says("its playbacks are not open any more");
        ScrubbedRecorder x = Rig.withPackets(true, 3, 1, 0);
        x.makeStore(1, true, 3);
        x.record(1, 1, 1, 0);
        x.play(0, 0, 9, 0);
        x.play(1, 0, 9, 5);
        x.play(0, 0, 9, 0);
        x.play(0, 5, 4, 0);
        x.dropStore(0);
        due.is("the other store's sends", x.frame(), 11);
        due.is("it is that store", x.frameByte(0), 1);
        due.no("its first playback", x.stop(0));
        due.no("its second playback", x.stop(2));
        due.no("its third playback", x.stop(3));
        due.yes("the other store's", x.stop(1));
    }

    private static void itSavesAll() {
        due.says("its playbacks are not open any more; then all is saved.");
        ScrubbedRecorder x = Rig.withPackets(true, 3, 2, 0);
        x.makeStore(1, true, 3);
        x.confirm(0, 0, 0);
        x.dropStore(1);
        x.confirm(0, 1, 1);
        due.no("refused: it saves nothing", x.dropStore(1));
        x.reset();
        due.is("what was confirmed when it was dropped", x.count(0, 1), 1);
        due.no("it is packet 0", x.gap(0, 0));
    }

    private static void otherStoresStay() {
        due.says("A store is made no more: its pages are freed, the first one first");
        ScrubbedRecorder x = Rig.withPackets(true, 3, 3, 20);
        x.makeStore(1, true, 3);
        Rig.recordMore(x, 1, 3, 20);
        x.gap(1, 0);
        x.gap(0, 2);
        x.gap(1, 1);
        x.gap(0, 1);
        due.yes("dropStore", x.dropStore(1));
        int[] want = {3, 0, 3, 2, 2, 2};
        for (int what = 0; what < want.length; what++) {
            due.is("count " + what, x.count(0, what), want[what]);
        }
        x.play(0, 0, 9, 0);
        due.is("asked for first", Rig.nextSent(x), 2);
        due.is("asked for next", Rig.nextSent(x), 1);
    }

    private static void refused() {
        due.says("Answers true; false, refused, when it is not made (or k is not 0 .. 3).");
        ScrubbedRecorder x = new ScrubbedRecorder();
        int[] wrong = {-1, 4, Integer.MIN_VALUE, Integer.MAX_VALUE};
        for (int k : wrong) {
            due.no("k " + k, x.dropStore(k));
        }
        for (int k = 0; k < 4; k++) {
            due.no("not made", x.dropStore(k));
            x.makeStore(k, true, 3);
            due.no("the next is not", x.dropStore(k + 1));
            due.yes("made", x.dropStore(k));
            due.no("dropped already", x.dropStore(k));
        }
    }
}

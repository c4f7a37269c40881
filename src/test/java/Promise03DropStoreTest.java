/** Promise 3: dropStore. */
public final class Promise03DropStoreTest {
    private static final Due due = new Due("promise 3");

    public static void main(String[] args) {
        wrongInputs();
        pagesAreFreed();
        freeingWritesWordZero();
        playbacksAreClosed();
        itSavesAll();
        due.end();
    }

    private static void wrongInputs() {
        ScrubbedRecorder x = new ScrubbedRecorder();
        due.no("not made", x.dropStore(0));
        due.no("k -1", x.dropStore(-1));
        due.no("k 4", x.dropStore(4));
        due.no("least int", x.dropStore(Integer.MIN_VALUE));
        x.makeStore(0, true, 3);
        due.no("another one", x.dropStore(1));
        due.yes("made", x.dropStore(0));
        due.no("dropped already", x.dropStore(0));
        due.is("count", x.count(0, 0), ScrubbedRecorder.BAD);
    }

    private static void pagesAreFreed() {
        ScrubbedRecorder x = new ScrubbedRecorder();
        x.makeStore(0, true, 3);
        x.makeStore(1, true, 3);
        x.record(0, 7, 1, 60);
        x.record(1, 8, 1, 60);
        x.play(0, 0, 9, 0);
        x.frame();
        due.is("free pages before", x.told(2), 36);
        due.yes("dropStore", x.dropStore(0));
        due.is("free pages behind", x.told(2), 38);
        due.is("the packet is kept no more", x.packetByte(0, 0, 0), ScrubbedRecorder.NONE);
        due.is("the other store's is", x.packetByte(1, 0, 0), 8);
        due.is("the frame stays", x.frameByte(5), 7);
    }

    private static void freeingWritesWordZero() {
        ScrubbedRecorder x = new ScrubbedRecorder();
        x.makeStore(0, true, 3);
        x.record(0, 1, 1, 60);
        x.flip(1, 0, 5);
        x.flip(2, 0, 5);
        x.flip(0, 0, 5);
        x.flip(3, 0, 5);
        x.flip(1, 1, 5);
        x.flip(0, 3, 5);
        due.is("flipped words before", x.told(4), 6);
        x.dropStore(0);
        due.is("words 0 of pages 0, 1 and of the parity are sound", x.told(4), 3);
    }

    private static void playbacksAreClosed() {
        ScrubbedRecorder x = new ScrubbedRecorder();
        x.makeStore(0, true, 3);
        x.makeStore(1, true, 3);
        x.play(0, 0, 9, 0);
        x.play(1, 0, 9, 0);
        x.play(0, 0, 9, 0);
        x.dropStore(0);
        due.no("its first playback", x.stop(0));
        due.no("its second playback", x.stop(2));
        due.yes("the other store's", x.stop(1));
    }

    private static void itSavesAll() {
        ScrubbedRecorder x = new ScrubbedRecorder();
        x.makeStore(0, true, 3);
        x.makeStore(1, true, 3);
        x.record(0, 1, 1, 0);
        x.record(0, 1, 1, 0);
        x.confirm(0, 0, 0);
        x.dropStore(1);
        x.confirm(0, 1, 1);
        due.no("refused", x.dropStore(1));
        x.reset();
        due.is("what was confirmed when it was dropped", x.count(0, 1), 1);
    }
}

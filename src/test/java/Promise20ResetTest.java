/** Promise 20: reset. */
public final class Promise20ResetTest {
    private static final Due due = new Due("promise 20");

    public static void main(String[] args) {
        confirmedAsSaved();
        recordedLater();
        inABoundedStore();
        nothingWasSaved();
        itIsNotASave();
        noneIsAskedFor();
        noPlaybackIsOpen();
        thereIsNoFrame();
        scrubbingBeginsAnew();
        theClockOfTheLatestKept();
        theClockWithoutAny();
        storesStay();
        theBufferStays();
        theMemoryStays();
        aModuleThatIsOffStaysOff();
        aNewObjectIsReset();
        due.end();
    }

    private static void confirmedAsSaved() {
        due.says("kept packets that were confirmed when it was saved last (and had been recorded before that) are confirmed now, no others");
        ScrubbedRecorder x = Rig.withPackets(true, 5, 4, 0);
        x.makeStore(2, true, 5);
        Rig.recordMore(x, 2, 4, 0);
        x.confirm(0, 1, 2);
        x.confirm(2, 3, 3);
        x.checkpoint(100);
        x.confirm(0, 0, 0);
        x.confirm(2, 0, 9);
        x.reset();
        due.is("store 0", x.count(0, 1), 2);
        due.no("packet 1", x.gap(0, 1));
        due.no("packet 2", x.gap(0, 2));
        due.is("store 2", x.count(2, 1), 1);
        due.no("packet 3", x.gap(2, 3));
        due.is("the others can be confirmed again", x.confirm(2, 0, 9), 3);
    }

    private static void recordedLater() {
        due.says("(and had been recorded before that)");
        ScrubbedRecorder x = Rig.withPackets(true, 5, 2, 0);
        x.confirm(0, Integer.MIN_VALUE, Integer.MAX_VALUE);
        x.checkpoint(100);
        Rig.recordMore(x, 0, 2, 0);
        x.confirm(0, 3, 3);
        x.reset();
        due.is("confirmed", x.count(0, 1), 2);
        due.yes("packet 2", x.gap(0, 2));
        due.yes("packet 3", x.gap(0, 3));
    }

    private static void inABoundedStore() {
        due.says("are confirmed now, no others");
        ScrubbedRecorder x = Rig.withPackets(false, 5, 4, Rig.PAGE);
        x.confirm(0, 2, 2);
        x.checkpoint(100);
        x.confirm(0, 1, 1);
        x.reset();
        due.is("confirmed", x.count(0, 1), 1);
        due.is("no page is freed", x.count(0, 3), 4);
        due.is("packet 0", x.confirm(0, 0, 0), 1);
        due.is("packet 1 holds its page again", x.count(0, 3), 3);
        due.is("packet 1", x.confirm(0, 1, 1), 1);
        due.is("packet 2 was saved", x.count(0, 3), 1);
    }

    private static void nothingWasSaved() {
        due.says("are confirmed now, no others");
        ScrubbedRecorder x = Rig.withPackets(true, 5, 4, 0);
        x.confirm(0, 0, 3);
        x.reset();
        due.is("confirmed", x.count(0, 1), 0);
        due.is("kept", x.count(0, 0), 4);
    }

    private static void itIsNotASave() {
        due.says("kept packets that were confirmed when it was saved last");
        ScrubbedRecorder x = Rig.withPackets(true, 5, 2, 0);
        x.confirm(0, 0, 0);
        x.checkpoint(8);
        x.confirm(0, 1, 1);
        x.reset();
        x.confirm(0, 1, 1);
        x.reset();
        due.is("as saved before the first reset", x.count(0, 1), 1);
        due.no("it is packet 0", x.gap(0, 0));
    }

    private static void noneIsAskedFor() {
        due.says("none is asked for; no playback");
        ScrubbedRecorder x = Rig.withPackets(true, 5, 3, 0);
        x.makeStore(3, true, 5);
        Rig.recordMore(x, 3, 1, 0);
        x.gap(0, 2);
        x.gap(0, 1);
        x.gap(3, 0);
        x.reset();
        due.is("store 0", x.count(0, 5), 0);
        due.is("store 3", x.count(3, 5), 0);
        x.play(0, 0, 9, 0);
        due.is("the least position", Rig.nextSent(x), 0);
        due.yes("it may be asked for", x.gap(0, 2));
    }

    private static void noPlaybackIsOpen() {
        due.says("no playback is open; there is no frame");
        ScrubbedRecorder x = Rig.withPackets(true, 5, 3, 0);
        for (int p = 0; p < 4; p++) {
            x.play(0, 0, 9, p);
        }
        x.frame();
        x.reset();
        due.is("none sends", x.frame(), ScrubbedRecorder.NONE);
        for (int p = 0; p < 4; p++) {
            due.no("stop", x.stop(p));
        }
        due.is("the first is opened", x.play(0, 0, 9, 0), 0);
        due.is("it begins at the least position", Rig.nextSent(x), 0);
    }

    private static void thereIsNoFrame() {
        due.says("there is no frame; scrubbing begins anew");
        ScrubbedRecorder x = Rig.withPackets(true, 5, 1, 9);
        x.play(0, 0, 9, 0);
        x.frame();
        x.reset();
        for (int i = 0; i < 20; i++) {
            due.is("byte " + i, x.frameByte(i), ScrubbedRecorder.NONE);
        }
    }

    private static void scrubbingBeginsAnew() {
        due.says("scrubbing begins anew at word 0 of module 0");
        ScrubbedRecorder x = new ScrubbedRecorder();
        x.tick(200);
        x.flip(0, 0, 0);
        x.flip(1, 72, 0);
        x.reset();
        due.is("word 0 of module 0", x.tick(1), 1);
        due.is("the next 199", x.tick(199), 0);
        due.is("the next", x.tick(1), 1);
    }

    private static void theClockOfTheLatestKept() {
        due.says("the clock of each store is the time of its latest kept packet");
        ScrubbedRecorder x = Rig.withStore(true, 5);
        x.makeStore(1, false, 5);
        x.record(0, 1, 70, 0);
        x.record(0, 1, 80, 0);
        x.record(1, 1, 50, Rig.PAGE);
        x.record(1, 1, 60, 20);
        x.record(1, 1, 65, 60);
        // Packets 1 and 2 of store 1 begin in the same page, and 2 runs on into another.
        x.confirm(1, 0, 1);
        x.reset();
        due.is("store 0", x.count(0, 4), 80);
        due.is("store 1", x.count(1, 4), 65);
        due.is("below it", x.record(0, 1, 79, 0), ScrubbedRecorder.BAD);
        due.is("the same time", x.record(0, 1, 80, 0), 2);
    }

    /** Packet 1 begins in the first page and runs on: with both confirmed, nothing is kept. */
    private static void theClockWithoutAny() {
        due.says("or 0 without any");
        ScrubbedRecorder x = Rig.withStore(false, 5);
        x.makeStore(1, true, 5);
        x.record(0, 1, 50, 40);
        x.record(0, 1, 60, 0);
        x.confirm(0, 0, 1);
        due.is("none is kept", x.count(0, 0), 0);
        due.is("the clock before", x.count(0, 4), 60);
        x.reset();
        due.is("the clock behind", x.count(0, 4), 0);
        due.is("of a store without packets", x.count(1, 4), 0);
        due.is("below 0", x.record(0, 1, -1, 0), ScrubbedRecorder.BAD);
        due.is("times may begin anew", x.record(0, 1, 0, 0), 2);
    }

    private static void storesStay() {
        due.says("All else stays, also the buffer.");
        ScrubbedRecorder x = Rig.withPackets(true, 5, 3, 20);
        x.makeStore(2, false, 3);
        Rig.recordMore(x, 2, 3, Rig.PAGE);
        x.reset();
        due.is("kept", x.count(0, 0), 3);
        due.is("next position", x.count(0, 2), 3);
        due.is("pages", x.count(0, 3), 2);
        due.is("free pages", x.told(2), 35);
        due.is("a packet", x.packetByte(0, 2, 0), 2);
        due.is("quotas", x.makeStore(1, true, 3), 29);
        due.is("made", x.makeStore(0, true, 3), ScrubbedRecorder.TAKEN);
        due.is("bounded", x.record(2, 1, 9, 0), ScrubbedRecorder.FULL);
        due.is("21 words, and 5 more in the same page", x.record(0, 1, 9, 12), 3);
        due.is("pages", x.count(0, 3), 2);
        x.record(0, 1, 9, 0);
        due.is("that was its last word", x.count(0, 3), 3);
    }

    private static void theBufferStays() {
        due.says("All else stays, also the buffer.");
        ScrubbedRecorder x = Rig.withStore(true, 3);
        x.put(0, 77L);
        x.put(59, 88L);
        x.reset();
        x.record(0, 1, 1, 60);
        due.is("its first byte", x.packetByte(0, 0, 6), 77);
        due.is("its last byte", x.packetByte(0, 0, 65), 88);
    }

    private static void theMemoryStays() {
        due.says("All else stays, also the buffer.");
        ScrubbedRecorder x = new ScrubbedRecorder();
        x.flip(0, 0, 0);
        Rig.flipTwo(x, 0, 1);
        x.tick(2);
        x.latch(1);
        x.power(1);
        Rig.rebuild(x, 3);
        x.flip(3, 3, 3);
        x.reset();
        int[] want = {1, 1, 40, 5, 1};
        for (int what = 0; what < want.length; what++) {
            due.is("told " + what, x.told(what), want[what]);
        }
        x.tick(0);
        due.yes("the fourth row is rebuilt next", x.flip(1, 63, 0));
        due.no("not the fifth", x.flip(1, 64, 0));
    }

    private static void aModuleThatIsOffStaysOff() {
        due.says("All else stays, also the buffer.");
        ScrubbedRecorder x = new ScrubbedRecorder();
        x.latch(4);
        x.reset();
        x.tick(0);
        due.is("rows", x.told(3), 8);
        due.no("another", x.latch(0));
        due.yes("it is off", x.power(4));
    }

    private static void aNewObjectIsReset() {
        due.says("A reset: kept packets");
        ScrubbedRecorder x = new ScrubbedRecorder();
        x.reset();
        x.reset();
        due.is("free pages", x.told(2), 40);
        due.is("makeStore", x.makeStore(0, true, 40), 0);
        due.is("record", x.record(0, 1, 0, 0), 0);
    }
}

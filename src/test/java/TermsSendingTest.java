/** The document's terms, the paragraphs on confirming, pruning, sending and saving. */
public final class TermsSendingTest {
    private static final Due due = new Due("terms, sending");

    public static void main(String[] args) {
        notConfirmedAtFirst();
        theRowOfThoseAskedFor();
        confirmedIsAskedForNoMore();
        keptNoMoreIsAskedForNoMore();
        theLastPageIsNotPruned();
        pruningStopsAtAnUnconfirmedPacket();
        packetsThatRunOnCount();
        pagesWithoutKeptPacketsArePruned();
        circularStoresAreNotPruned();
        noPlaybackIsOpenAtFirst();
        sentLastAtFirst();
        packetsInAPlayback();
        noFrameAtFirst();
        theBytesOfAFrame();
        fourBytes();
        savingStandsApart();
        wordsThatSavingTakes();
        due.end();
    }

    private static void notConfirmedAtFirst() {
        due.says("Kept packets are CONFIRMED or not (not at first), and may be ASKED FOR again");
        ScrubbedRecorder x = Rig.withPackets(true, 3, 2, 0);
        x.confirm(0, 0, 9);
        x.record(0, 1, 9, 0);
        due.is("confirmed", x.count(0, 1), 2);
        due.is("asked for", x.count(0, 5), 0);
        due.yes("it may be asked for", x.gap(0, 2));
        due.is("asked for", x.count(0, 5), 1);
        due.is("confirmed now", x.confirm(0, 0, 9), 1);
    }

    private static void theRowOfThoseAskedFor() {
        due.says("the row of those that are, in the order in which that was done, is one for all stores.");
        ScrubbedRecorder x = Rig.withPackets(true, 5, 5, 0);
        x.makeStore(1, true, 5);
        Rig.recordMore(x, 1, 5, 0);
        int[] order = {3, 1, 4, 0};
        for (int position : order) {
            x.gap(0, position);
            x.gap(1, 4 - position);
        }
        x.play(0, 0, 9, 0);
        due.is("the first of store 0", Rig.nextSent(x), 3);
        x.gap(0, 3);
        due.is("the second", Rig.nextSent(x), 1);
        due.is("the third", Rig.nextSent(x), 4);
        due.is("the fourth", Rig.nextSent(x), 0);
        due.is("asked for anew it is the last", Rig.nextSent(x), 3);
        due.is("none is asked for", x.count(0, 5), 0);
        x.stop(0);
        x.play(1, 0, 9, 0);
        for (int position : order) {
            due.is("store 1 in its order", Rig.nextSent(x), 4 - position);
        }
    }

    private static void confirmedIsAskedForNoMore() {
        due.says("A packet that is confirmed, or kept no more, is asked for no more.");
        ScrubbedRecorder x = Rig.withPackets(true, 3, 4, 0);
        x.gap(0, 2);
        x.gap(0, 3);
        x.confirm(0, 2, 2);
        due.is("asked for", x.count(0, 5), 1);
        x.play(0, 0, 9, 0);
        due.is("the other", Rig.nextSent(x), 3);
        due.is("then round from the least", Rig.nextSent(x), 0);
        x.reset();
        due.is("not even when it is not confirmed again", x.count(0, 5), 0);
        due.yes("it may be asked for then", x.gap(0, 2));
    }

    private static void keptNoMoreIsAskedForNoMore() {
        due.says("A packet that is confirmed, or kept no more, is asked for no more.");
        ScrubbedRecorder x = Rig.withPackets(true, 3, 3, Rig.PAGE);
        x.gap(0, 0);
        x.gap(0, 1);
        x.play(0, 0, 9, 0);
        x.record(0, 3, 3, 0);
        due.is("asked for", x.count(0, 5), 1);
        due.is("the other", Rig.nextSent(x), 1);
        x.gap(0, 2);
        x.dropStore(0);
        x.makeStore(0, true, 3);
        Rig.recordMore(x, 0, 3, 0);
        due.is("nor with its store", x.count(0, 5), 0);
    }

    private static void theLastPageIsNotPruned() {
        due.says("as long as its chain has two pages or more");
        ScrubbedRecorder x = Rig.withStore(false, 3);
        due.is("no page at all", x.confirm(0, 0, 9), 0);
        due.is("pages", x.count(0, 3), 0);
        Rig.recordMore(x, 0, 1, Rig.PAGE);
        x.confirm(0, 0, 9);
        due.is("a full page, all confirmed", x.count(0, 3), 1);
        due.is("its packet is kept", x.count(0, 0), 1);

        ScrubbedRecorder y = Rig.withPackets(false, 3, 3, Rig.PAGE);
        y.confirm(0, 0, 9);
        due.is("of three pages the last", y.count(0, 3), 1);
        due.is("its packet is kept", y.seek(0, 0), 2);
    }

    private static void pruningStopsAtAnUnconfirmedPacket() {
        due.says("and all kept packets that have words in the first one are confirmed (or there are none), that is freed.");
        ScrubbedRecorder x = Rig.withPackets(false, 6, 8, 18);
        // Seven words each: packets 0 and 1 begin in page 0, 2 and 3 in page 1, and so on.
        due.is("pages", x.count(0, 3), 5);
        x.confirm(0, 1, 4);
        due.is("packet 0 holds its page, and so all", x.count(0, 3), 5);
        x.confirm(0, 0, 0);
        due.is("packet 5 holds its page", x.count(0, 3), 3);
        due.is("kept with packet 4, which is confirmed", x.seek(0, 0), 4);
        due.is("confirmed", x.count(0, 1), 1);
        x.confirm(0, 6, 6);
        due.is("not before packet 5", x.count(0, 3), 3);
        x.confirm(0, 5, 5);
        due.is("packet 7 holds its page", x.count(0, 3), 2);
    }

    /** Packet 1 has one word in page 0, and one in page 1, where packet 2 begins. */
    private static void packetsThatRunOnCount() {
        due.says("all kept packets that have words in the first one are confirmed");
        ScrubbedRecorder x = Rig.withPackets(false, 6, 1, 40);
        Rig.recordMore(x, 0, 1, 0);
        Rig.recordMore(x, 0, 2, 36);
        due.is("pages", x.count(0, 3), 3);
        x.confirm(0, 0, 0);
        due.is("its single word holds page 0", x.count(0, 3), 3);
        x.confirm(0, 2, 2);
        due.is("still", x.count(0, 3), 3);
        x.confirm(0, 1, 1);
        due.is("packet 3, with one word in page 1, holds that", x.count(0, 3), 2);
        due.is("least kept", x.seek(0, 0), 2);
        x.confirm(0, 3, 3);
        due.is("the last page, in which none begins", x.count(0, 3), 1);
        due.is("none is kept", x.count(0, 0), 0);
    }

    /** Packet 1 has one word in page 0, all words of page 1, and three of page 2. */
    private static void pagesWithoutKeptPacketsArePruned() {
        due.says("(or there are none)");
        ScrubbedRecorder x = Rig.withPackets(false, 6, 1, 40);
        Rig.recordMore(x, 0, 1, 60);
        Rig.recordMore(x, 0, 1, 0);
        due.is("pages", x.count(0, 3), 3);
        x.confirm(0, 0, 1);
        due.is("page 1 has words of a packet kept no more alone", x.count(0, 3), 1);
        due.is("kept", x.count(0, 0), 1);
        due.is("it is packet 2, in page 2", x.seek(0, 0), 2);
    }

    private static void circularStoresAreNotPruned() {
        due.says("PRUNING a bounded store");
        ScrubbedRecorder x = Rig.withPackets(true, 6, 3, Rig.PAGE);
        x.confirm(0, 0, 9);
        due.is("pages behind confirm", x.count(0, 3), 3);
        Rig.recordMore(x, 0, 1, Rig.PAGE);
        due.is("pages behind record", x.count(0, 3), 4);
        due.is("kept", x.count(0, 0), 4);
    }

    private static void noPlaybackIsOpenAtFirst() {
        due.says("There are PLAYBACKS 0 .. 3, OPEN or not (at first none is).");
        ScrubbedRecorder x = Rig.withPackets(true, 3, 1, 0);
        for (int p = -1; p < 5; p++) {
            due.no("stop of " + p, x.stop(p));
        }
        due.is("frame", x.frame(), ScrubbedRecorder.NONE);
        for (int p = 0; p < 4; p++) {
            due.is("play", x.play(0, 0, 9, 0), p);
        }
        due.is("a fifth", x.play(0, 0, 9, 0), ScrubbedRecorder.FULL);
    }

    private static void sentLastAtFirst() {
        due.says("An open one has a store, times FROM and TO, a PRIORITY, and the position SENT last, at first -1.");
        ScrubbedRecorder x = Rig.withPackets(true, 3, 3, 0);
        x.play(0, 0, 9, 5);
        due.is("position 0 is above -1", Rig.nextSent(x), 0);
        due.is("then 1", Rig.nextSent(x), 1);
        x.play(0, 0, 9, 4);
        due.is("another has its own", Rig.nextSent(x), 0);
        x.stop(1);
        due.is("this one goes on", Rig.nextSent(x), 2);
        x.stop(0);
        x.play(0, 0, 9, 5);
        due.is("opened anew it begins anew", Rig.nextSent(x), 0);
    }

    private static void packetsInAPlayback() {
        due.says("Packets IN it are those kept in its store, not confirmed, with a time from FROM to TO.");
        ScrubbedRecorder x = Rig.withPackets(true, 3, 3, Rig.PAGE);
        x.makeStore(1, true, 3);
        x.record(1, 9, 1, 0);
        due.is("play", x.play(0, 1, 2, 0), 0);
        due.is("time 1, not 0", Rig.nextSent(x), 1);
        due.is("time 2", Rig.nextSent(x), 2);
        due.is("round", Rig.nextSent(x), 1);
        Rig.recordMore(x, 0, 1, 0);
        due.is("time 2, not 3", Rig.nextSent(x), 2);
        due.is("round", Rig.nextSent(x), 1);
        x.confirm(0, 2, 2);
        due.is("not a confirmed one", Rig.nextSent(x), 1);
        Rig.recordMore(x, 0, 1, 60);
        due.is("one that is kept no more is not in it", x.frame(), ScrubbedRecorder.NONE);
        due.is("play", x.play(0, 4, 4, 0), 1);
        due.is("from and to may be the same", Rig.nextSent(x), 4);
    }

    private static void noFrameAtFirst() {
        due.says("THE FRAME, at first none, has the bytes");
        ScrubbedRecorder x = Rig.withPackets(true, 3, 1, 0);
        x.play(0, 0, 9, 0);
        due.is("byte 0", x.frameByte(0), ScrubbedRecorder.NONE);
        due.is("frame", x.frame(), 11);
        due.is("byte 0", x.frameByte(0), 0);
    }

    private static void theBytesOfAFrame() {
        due.says("the store, the position as four bytes, and the bytes that TELL the packet: the source, the time as four bytes, how many bytes it has, and these.");
        ScrubbedRecorder x = new ScrubbedRecorder();
        x.makeStore(3, true, 20);
        for (int i = 0; i < 60; i++) {
            x.put(i, 200 + i);
        }
        x.record(3, 255, 0x01020304, 60);
        x.record(3, 0, 0x01020304, 0);
        x.play(3, 0, Integer.MAX_VALUE, 0);
        due.is("frame", x.frame(), 71);
        int[] head = {3, 0, 0, 0, 0, 255, 1, 2, 3, 4, 60};
        for (int i = 0; i < 71; i++) {
            due.is("byte " + i, x.frameByte(i), i < 11 ? head[i] : (200 + i - 11) % 256);
        }
        due.is("no byte more", x.frameByte(71), ScrubbedRecorder.NONE);
        due.is("frame without bytes", x.frame(), 11);
        int[] empty = {3, 0, 0, 0, 1, 0, 1, 2, 3, 4, 0};
        for (int i = 0; i < 11; i++) {
            due.is("byte " + i, x.frameByte(i), empty[i]);
        }
        due.is("no byte more", x.frameByte(11), ScrubbedRecorder.NONE);
    }

    private static void fourBytes() {
        due.says("(Four bytes: the highest first.)");
        ScrubbedRecorder x = Rig.withStore(true, 20);
        for (int n = 0; n < 258; n++) {
            x.record(0, 1, 0, 0);
        }
        due.is("record", x.record(0, 1, 0x7FFEFDFC, 0), 258);
        x.play(0, 1, Integer.MAX_VALUE, 0);
        x.frame();
        int[] want = {0, 0, 0, 1, 2, 1, 0x7F, 0xFE, 0xFD, 0xFC, 0};
        for (int i = 0; i < want.length; i++) {
            due.is("byte " + i, x.frameByte(i), want[i]);
        }
        for (int i = 1; i < 5; i++) {
            due.is("byte " + i + " of the packet", x.packetByte(0, 258, i), want[i + 5]);
        }
    }

    private static void savingStandsApart() {
        due.says("SAVING keeps, apart from all else, which packets are confirmed.");
        ScrubbedRecorder x = Rig.withPackets(true, 10, 6, 20);
        x.makeStore(1, true, 3);
        x.confirm(0, 1, 2);
        x.checkpoint(100);
        x.confirm(0, 3, 3);
        x.gap(0, 0);
        x.latch(1);
        x.power(1);
        x.tick(768);
        x.record(1, 1, 1, 60);
        due.is("until then all are confirmed", x.count(0, 1), 3);
        x.reset();
        due.is("those that were saved", x.count(0, 1), 2);
        due.no("packet 1", x.gap(0, 1));
        due.no("packet 2", x.gap(0, 2));
        due.yes("not packet 3", x.gap(0, 3));
    }

    private static void wordsThatSavingTakes() {
        due.says("(It takes 6 words, and two more for each RUN: of the positions of kept, confirmed packets of a store, those that follow one another without a gap.)");
        ScrubbedRecorder x = Rig.withStore(true, 3);
        due.is("no packets", x.checkpoint(0), 6);
        x.makeStore(1, true, 3);
        Rig.recordMore(x, 0, 6, 0);
        due.is("none confirmed", x.checkpoint(0), 6);
        x.confirm(0, 0, 0);
        due.is("a run of one, the first", x.checkpoint(0), 8);
        x.confirm(0, 5, 5);
        due.is("a run of one, the last", x.checkpoint(0), 10);
        x.confirm(0, 2, 3);
        due.is("a run of two", x.checkpoint(0), 12);
        x.confirm(0, 1, 1);
        due.is("two runs become one", x.checkpoint(0), 10);
        x.confirm(0, 4, 4);
        due.is("all in one run", x.checkpoint(0), 8);
        Rig.recordMore(x, 1, 7, 0);
        x.confirm(1, 6, 6);
        due.is("a store's run does not go on in the next store", x.checkpoint(0), 10);
        x.confirm(1, 0, 0);
        due.is("another of that store", x.checkpoint(0), 12);
        Rig.recordMore(x, 1, 3, Rig.PAGE);
        due.is("those that are kept no more are in no run", x.checkpoint(0), 8);
        x.dropStore(0);
        due.is("nor those of a store that is not made", x.checkpoint(0), 6);
    }
}

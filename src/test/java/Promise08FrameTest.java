/** Promise 8: frame. */
public final class Promise08FrameTest {
    private static final Due due = new Due("promise 8");

    public static void main(String[] args) {
        leastPriorityFirst();
        openedFirstGoesFirst();
        openedAnewGoesLast();
        aPlaybackWithoutPacketsGivesWay();
        askedForGoesFirst();
        askedForInAnotherPlayback();
        askedForByTheLeastPriorityAlone();
        theLeastAbove();
        roundFromTheTop();
        theOneSentLastIsGone();
        sentLastInEitherCase();
        howManyBytes();
        noneAndTheFrameStays();
        due.end();
    }

    /** Store 0 has sources from 100, store 1 from 200; both have times from 10. */
    private static ScrubbedRecorder withTwoStores(int packets) {
        ScrubbedRecorder x = new ScrubbedRecorder();
        x.makeStore(0, true, 5);
        x.makeStore(1, true, 5);
        for (int n = 0; n < packets; n++) {
            x.record(0, 100 + n, 10 + n, n);
            x.record(1, 200 + n, 10 + n, n);
        }
        return x;
    }

    private static void sends(String what, ScrubbedRecorder x, int store, int position) {
        due.is(what + ": bytes", x.frame(), 11 + position);
        due.is(what + ": store", x.frameByte(0), store);
        due.is(what + ": position", x.frameByte(4), position);
        due.is(what + ": source", x.frameByte(5), 100 + 100 * store + position);
    }

    private static void leastPriorityFirst() {
        due.says("of the open playbacks that have a packet in them, the one with the least priority");
        ScrubbedRecorder x = withTwoStores(2);
        x.play(0, 0, 99, 9);
        sends("priority 9 alone", x, 0, 0);
        x.play(1, 0, 99, 8);
        sends("priority 8", x, 1, 0);
        x.play(0, 0, 99, 0);
        sends("priority 0", x, 0, 0);
        x.stop(2);
        sends("priority 8 goes on", x, 1, 1);
        x.stop(1);
        sends("priority 9 goes on", x, 0, 1);
    }

    private static void openedFirstGoesFirst() {
        due.says("and of these the one that was opened first, sends a packet");
        ScrubbedRecorder x = withTwoStores(2);
        x.play(0, 0, 99, 4);
        x.play(0, 0, 99, 3);
        x.play(1, 0, 99, 3);
        x.stop(0);
        due.is("opened last, with the least number", x.play(1, 0, 99, 3), 0);
        sends("opened first", x, 0, 0);
        x.stop(1);
        sends("opened second", x, 1, 0);
        sends("it is the same one", x, 1, 1);
        x.stop(2);
        sends("opened last", x, 1, 0);
    }

    private static void openedAnewGoesLast() {
        due.says("and of these the one that was opened first, sends a packet");
        ScrubbedRecorder x = withTwoStores(2);
        x.play(0, 0, 99, 3);
        x.play(1, 0, 99, 3);
        sends("opened first", x, 0, 0);
        x.stop(0);
        due.is("the same number", x.play(0, 0, 99, 3), 0);
        sends("opened first now", x, 1, 0);
    }

    private static void aPlaybackWithoutPacketsGivesWay() {
        due.says("of the open playbacks that have a packet in them");
        ScrubbedRecorder x = withTwoStores(2);
        x.play(0, 50, 99, 0);
        x.play(1, 0, 99, 9);
        sends("the one that has a packet", x, 1, 0);
        x.record(0, 102, 50, 2);
        sends("the other has one now", x, 0, 2);
        x.confirm(0, 2, 2);
        sends("no more", x, 1, 1);
        x.confirm(1, 0, 1);
        due.is("none has", x.frame(), ScrubbedRecorder.NONE);
    }

    private static void askedForGoesFirst() {
        due.says("of those in it the one that was asked for first, if some are (it is asked for no more then)");
        ScrubbedRecorder x = withTwoStores(5);
        x.play(0, 0, 99, 0);
        sends("ordinary", x, 0, 0);
        x.gap(0, 3);
        x.gap(0, 1);
        due.is("asked for", x.count(0, 5), 2);
        sends("asked for first", x, 0, 3);
        due.is("asked for", x.count(0, 5), 1);
        sends("asked for next", x, 0, 1);
        due.is("asked for", x.count(0, 5), 0);
        sends("behind the one sent last", x, 0, 2);
        due.yes("it may be asked for anew", x.gap(0, 3));
        sends("asked for anew", x, 0, 3);
    }

    private static void askedForInAnotherPlayback() {
        due.says("of those in it the one that was asked for first, if some are (it is asked for no more then)");
        ScrubbedRecorder x = withTwoStores(5);
        x.gap(1, 4);
        x.gap(0, 4);
        x.gap(0, 2);
        x.play(0, 11, 12, 0);
        x.play(1, 0, 99, 1);
        sends("of those in it", x, 0, 2);
        sends("none of those in it is asked for", x, 0, 1);
        due.is("the one outside its times is still asked for", x.count(0, 5), 1);
        due.is("so is the other store's", x.count(1, 5), 1);
        x.stop(0);
        sends("the other store's", x, 1, 4);
        due.is("not any more", x.count(1, 5), 0);
    }

    private static void askedForByTheLeastPriorityAlone() {
        due.says("of those in it the one that was asked for first, if some are (it is asked for no more then)");
        ScrubbedRecorder x = withTwoStores(3);
        x.play(0, 0, 99, 2);
        x.play(0, 12, 99, 1);
        x.gap(0, 1);
        sends("it is not in the one that goes first", x, 0, 2);
        due.is("asked for", x.count(0, 5), 1);
        x.stop(1);
        sends("then it is its turn", x, 0, 1);
    }

    private static void theLeastAbove() {
        due.says("otherwise the one with the least position above the one sent last");
        ScrubbedRecorder x = withTwoStores(6);
        x.play(0, 11, 15, 0);
        sends("the least", x, 0, 1);
        x.confirm(0, 2, 3);
        sends("the least above, of those in it", x, 0, 4);
        sends("the next", x, 0, 5);
    }

    private static void roundFromTheTop() {
        due.says("or with the least position, when there is none above.");
        ScrubbedRecorder x = withTwoStores(5);
        x.play(0, 11, 13, 0);
        int[] want = {1, 2, 3, 1, 2, 3, 1};
        for (int position : want) {
            sends("round", x, 0, position);
        }
        x.confirm(0, 2, 3);
        sends("the only one, again", x, 0, 1);
        sends("and again", x, 0, 1);
    }

    private static void theOneSentLastIsGone() {
        due.says("or with the least position, when there is none above.");
        ScrubbedRecorder x = Rig.withPackets(true, 3, 3, Rig.PAGE);
        x.play(0, 0, 99, 0);
        due.is("position 0", Rig.nextSent(x), 0);
        Rig.recordMore(x, 0, 1, 60);
        due.is("0 and 1 are kept no more", x.seek(0, 0), 2);
        due.is("the least above 0", Rig.nextSent(x), 2);
        due.is("the next", Rig.nextSent(x), 3);
        due.is("round to the least that is kept", Rig.nextSent(x), 2);
    }

    private static void sentLastInEitherCase() {
        due.says("(The position sent last becomes that one in either case.)");
        ScrubbedRecorder x = withTwoStores(5);
        x.play(0, 0, 99, 0);
        x.gap(0, 2);
        sends("asked for", x, 0, 2);
        sends("the least above that", x, 0, 3);
        x.gap(0, 0);
        sends("asked for, below", x, 0, 0);
        sends("the least above that", x, 0, 1);
        x.gap(0, 4);
        sends("asked for, the last", x, 0, 4);
        sends("round", x, 0, 0);
    }

    private static void howManyBytes() {
        due.says("Answers how many bytes the frame has.");
        ScrubbedRecorder x = Rig.withStore(true, 10);
        int[] lengths = {0, 1, 59, 60};
        for (int len : lengths) {
            x.record(0, 1, 1, len);
        }
        x.play(0, 0, 99, 0);
        for (int len : lengths) {
            due.is("a packet of " + len + " bytes", x.frame(), 11 + len);
            due.yes("its last byte", x.frameByte(10 + len) != ScrubbedRecorder.NONE);
            due.is("none behind it", x.frameByte(11 + len), ScrubbedRecorder.NONE);
        }
    }

    private static void noneAndTheFrameStays() {
        due.says("NONE when there is no such playback; the frame stays as it was then.");
        ScrubbedRecorder x = withTwoStores(1);
        due.is("none is open", x.frame(), ScrubbedRecorder.NONE);
        due.is("there is still no frame", x.frameByte(0), ScrubbedRecorder.NONE);
        x.play(0, 0, 99, 0);
        sends("the only one", x, 0, 0);
        x.confirm(0, 0, 0);
        due.is("no packet is in it", x.frame(), ScrubbedRecorder.NONE);
        due.is("the frame stays", x.frameByte(5), 100);
        due.is("with all its bytes", x.frameByte(11), ScrubbedRecorder.NONE);
        x.stop(0);
        due.is("none is open", x.frame(), ScrubbedRecorder.NONE);
        due.is("the frame stays", x.frameByte(5), 100);
    }
}

/** Promise 8: frame. */
public final class Promise08FrameTest {
    private static final Due due = new Due("promise 8");

    public static void main(String[] args) {
        roundAndRound();
        leastPriorityFirst();
        openedFirstGoesFirst();
        askedForGoesFirst();
        askedForInAnotherPlayback();
        theFrameStaysWithoutAnother();
        anEmptyPlaybackGivesWay();
        freedPacketsAreNotSent();
        due.end();
    }

    private static ScrubbedRecorder withPackets(int packets) {
        ScrubbedRecorder x = new ScrubbedRecorder();
        x.makeStore(0, true, 5);
        x.makeStore(1, true, 5);
        for (int n = 0; n < packets; n++) {
            x.record(0, 100 + n, 10 + n, n);
            x.record(1, 200 + n, 10 + n, n);
        }
        return x;
    }

    private static void sends(String what, ScrubbedRecorder x, int store, int position) {
        due.is(what + ": bytes", x.frame(), 11 + position);
        due.is(what + ": store", x.frameByte(0), store);
        due.is(what + ": position", x.frameByte(4), position);
        due.is(what + ": source", x.frameByte(5), 100 + 100 * store + position);
    }

    private static void roundAndRound() {
        ScrubbedRecorder x = withPackets(4);
        x.play(0, 11, 13, 0);
        int[] want = {1, 2, 3, 1, 2};
        for (int n = 0; n < want.length; n++) {
            sends("round", x, 0, want[n]);
        }
        x.confirm(0, 3, 3);
        sends("a confirmed one is not sent", x, 0, 1);
    }

    private static void leastPriorityFirst() {
        ScrubbedRecorder x = withPackets(2);
        x.play(0, 0, 99, 5);
        x.play(1, 0, 99, 4);
        sends("priority 4", x, 1, 0);
        x.play(0, 0, 99, 0);
        sends("priority 0", x, 0, 0);
        x.stop(2);
        sends("priority 4 goes on", x, 1, 1);
    }

    private static void openedFirstGoesFirst() {
        ScrubbedRecorder x = withPackets(2);
        x.play(0, 0, 99, 3);
        x.play(1, 0, 99, 3);
        sends("opened first", x, 0, 0);
        x.stop(0);
        due.is("opened last, with the least number", x.play(0, 0, 99, 3), 0);
        sends("opened first now", x, 1, 0);
    }

    private static void askedForGoesFirst() {
        ScrubbedRecorder x = withPackets(5);
        x.play(0, 0, 99, 0);
        sends("ordinary", x, 0, 0);
        x.gap(0, 3);
        x.gap(0, 1);
        due.is("asked for", x.count(0, 5), 2);
        sends("asked for first", x, 0, 3);
        due.is("asked for", x.count(0, 5), 1);
        sends("asked for next", x, 0, 1);
        due.is("asked for", x.count(0, 5), 0);
        sends("behind the one sent last", x, 0, 2);
        x.gap(0, 4);
        x.gap(0, 0);
        x.confirm(0, 4, 4);
        sends("a confirmed one is asked for no more", x, 0, 0);
    }

    private static void askedForInAnotherPlayback() {
        ScrubbedRecorder x = withPackets(5);
        x.gap(1, 4);
        x.gap(0, 4);
        x.gap(0, 2);
        x.play(0, 11, 12, 0);
        x.play(1, 0, 99, 1);
        sends("of those in it the one asked for first", x, 0, 2);
        sends("none of those in it is asked for", x, 0, 1);
        due.is("still asked for", x.count(0, 5), 1);
        x.stop(0);
        sends("the other store's", x, 1, 4);
        sends("round from the top", x, 1, 0);
    }

    private static void theFrameStaysWithoutAnother() {
        ScrubbedRecorder x = withPackets(1);
        x.play(0, 0, 99, 0);
        sends("the only one", x, 0, 0);
        x.confirm(0, 0, 0);
        due.is("no frame", x.frame(), ScrubbedRecorder.NONE);
        due.is("it stays", x.frameByte(5), 100);
        x.record(0, 101, 50, 1);
        sends("a new one", x, 0, 1);
    }

    private static void anEmptyPlaybackGivesWay() {
        ScrubbedRecorder x = withPackets(2);
        x.play(0, 50, 99, 0);
        x.play(1, 0, 99, 9);
        sends("the one that has a packet", x, 1, 0);
        x.confirm(1, 0, 1);
        due.is("none has", x.frame(), ScrubbedRecorder.NONE);
    }

    private static void freedPacketsAreNotSent() {
        ScrubbedRecorder x = new ScrubbedRecorder();
        x.makeStore(0, true, 3);
        for (int n = 0; n < 3; n++) {
            x.record(0, n, n, 44);
        }
        x.play(0, 0, 99, 0);
        x.gap(0, 0);
        x.record(0, 3, 3, 44);
        due.is("asked for no more", x.count(0, 5), 0);
        due.is("frame", x.frame(), 55);
        due.is("the least that is kept", x.frameByte(4), 1);
    }
}

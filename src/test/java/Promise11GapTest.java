/** Promise 11: gap. */
public final class Promise11GapTest {
    private static final Due due = new Due("promise 11");

    public static void main(String[] args) {
        asksAgain();
        noSuchPacket();
        confirmed();
        askedForAlready();
        due.end();
    }

    private static void asksAgain() {
        due.says("Asks for a packet again.");
        ScrubbedRecorder x = Rig.withPackets(true, 3, 3, 0);
        x.makeStore(1, true, 3);
        Rig.recordMore(x, 1, 3, 0);
        due.yes("the first", x.gap(0, 0));
        due.yes("the last", x.gap(0, 2));
        due.is("asked for", x.count(0, 5), 2);
        due.is("not in another store", x.count(1, 5), 0);
        x.play(0, 1, 9, 0);
        due.is("sent before the others", Rig.nextSent(x), 2);
    }

    private static void noSuchPacket() {
        due.says("Answers true; false, refused, when there is no such packet kept, or it is confirmed or asked for already.");
        ScrubbedRecorder x = Rig.withStore(true, 3);
        due.no("no packet yet", x.gap(0, 0));
        Rig.recordMore(x, 0, 4, Rig.PAGE);
        int[] stores = {-1, 1, 2, 3, 4, Integer.MIN_VALUE, Integer.MAX_VALUE};
        for (int k : stores) {
            due.no("store " + k, x.gap(k, 1));
        }
        int[] positions = {-1, 0, 4, Integer.MIN_VALUE, Integer.MAX_VALUE};
        for (int position : positions) {
            due.no("position " + position, x.gap(0, position));
        }
        due.is("asked for", x.count(0, 5), 0);
        due.yes("the least that is kept", x.gap(0, 1));
        due.yes("the last", x.gap(0, 3));
        x.dropStore(0);
        due.no("dropped", x.gap(0, 2));
    }

    private static void confirmed() {
        due.says("Answers true; false, refused, when there is no such packet kept, or it is confirmed or asked for already.");
        ScrubbedRecorder x = Rig.withPackets(true, 3, 3, 0);
        x.gap(0, 1);
        x.confirm(0, 0, 1);
        due.no("confirmed", x.gap(0, 0));
        due.no("confirmed, was asked for", x.gap(0, 1));
        due.yes("not confirmed", x.gap(0, 2));
        due.is("asked for", x.count(0, 5), 1);
    }

    private static void askedForAlready() {
        due.says("Answers true; false, refused, when there is no such packet kept, or it is confirmed or asked for already.");
        ScrubbedRecorder x = Rig.withPackets(true, 3, 3, 0);
        x.gap(0, 1);
        x.gap(0, 0);
        due.no("asked for already", x.gap(0, 1));
        due.is("asked for", x.count(0, 5), 2);
        x.play(0, 0, 9, 0);
        due.is("its place in the row is as it was", Rig.nextSent(x), 1);
        due.yes("sent: it may be asked for again", x.gap(0, 1));
        due.is("the other goes first now", Rig.nextSent(x), 0);
        x.reset();
        due.yes("none is asked for behind a reset", x.gap(0, 1));
    }
}

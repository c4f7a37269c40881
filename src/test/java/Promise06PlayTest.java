/** Promise 6: play. */
public final class Promise06PlayTest {
    private static final Due due = new Due("promise 6");

    public static void main(String[] args) {
        wrongInputs();
        theLeastNumberIsOpened();
        timesLimitIt();
        due.end();
    }

    private static void wrongInputs() {
        ScrubbedRecorder x = new ScrubbedRecorder();
        due.is("not made", x.play(0, 0, 1, 0), ScrubbedRecorder.BAD);
        due.is("k -1", x.play(-1, 0, 1, 0), ScrubbedRecorder.BAD);
        due.is("k 4", x.play(4, 0, 1, 0), ScrubbedRecorder.BAD);
        x.makeStore(0, true, 3);
        due.is("prio -1", x.play(0, 0, 1, -1), ScrubbedRecorder.BAD);
        due.is("prio 10", x.play(0, 0, 1, 10), ScrubbedRecorder.BAD);
        due.no("nothing was opened", x.stop(0));
    }

    private static void theLeastNumberIsOpened() {
        ScrubbedRecorder x = new ScrubbedRecorder();
        x.makeStore(0, true, 3);
        for (int p = 0; p < 4; p++) {
            due.is("play", x.play(0, 0, 1, 9 * (p % 2)), p);
        }
        due.is("all are open", x.play(0, 0, 1, 0), ScrubbedRecorder.FULL);
        due.is("BAD stands before FULL", x.play(0, 0, 1, 10), ScrubbedRecorder.BAD);
        due.is("BAD stands before FULL", x.play(1, 0, 1, 0), ScrubbedRecorder.BAD);
        x.stop(2);
        x.stop(1);
        due.is("least", x.play(0, 0, 1, 0), 1);
        due.is("next", x.play(0, 0, 1, 0), 2);
    }

    private static void timesLimitIt() {
        ScrubbedRecorder x = new ScrubbedRecorder();
        x.makeStore(0, true, 3);
        for (int time = 0; time < 5; time++) {
            x.record(0, time, time, 0);
        }
        due.is("from above to", x.play(0, 3, 2, 0), 0);
        due.is("no packet is in it", x.frame(), ScrubbedRecorder.NONE);
        due.is("both ends belong to it", x.play(0, 1, 2, 0), 1);
        int[] want = {1, 2, 1};
        for (int n = 0; n < want.length; n++) {
            due.is("frame", x.frame(), 11);
            due.is("position", x.frameByte(4), want[n]);
        }
        x.stop(1);
        due.is("all times", x.play(0, Integer.MIN_VALUE, Integer.MAX_VALUE, 0), 1);
        due.is("frame", x.frame(), 11);
        due.is("it begins at the least position", x.frameByte(4), 0);
        x.record(0, 9, 9, 0);
        for (int n = 1; n < 6; n++) {
            x.frame();
            due.is("a packet recorded later is in it, too", x.frameByte(4), n);
        }
    }
}

/** Promise 7: stop. */
public final class Promise07StopTest {
    private static final Due due = new Due("promise 7");

    public static void main(String[] args) {
        openNoMore();
        theOthersGoOn();
        refused();
        due.end();
    }

    private static void openNoMore() {
        due.says("A playback is open no more.");
        ScrubbedRecorder x = Rig.withPackets(true, 3, 1, 0);
        x.play(0, 0, 9, 0);
        due.is("it sends", x.frame(), 11);
        due.yes("stop", x.stop(0));
        due.is("it sends no more", x.frame(), ScrubbedRecorder.NONE);
        due.is("the frame stays", x.frameByte(10), 0);
    }

    private static void theOthersGoOn() {
        due.says("A playback is open no more.");
        ScrubbedRecorder x = Rig.withPackets(true, 3, 4, 0);
        for (int p = 0; p < 4; p++) {
            x.play(0, p, p, p);
        }
        for (int p = 0; p < 4; p++) {
            due.is("the first that is open", Rig.nextSent(x), p);
            due.yes("stop", x.stop(p));
        }
        due.is("none is open", x.frame(), ScrubbedRecorder.NONE);
    }

    private static void refused() {
        due.says("Answers true; false, refused, when it is not open.");
        ScrubbedRecorder x = Rig.withStore(true, 3);
        int[] wrong = {-1, 0, 3, 4, Integer.MIN_VALUE, Integer.MAX_VALUE};
        for (int p : wrong) {
            due.no("none is open: " + p, x.stop(p));
        }
        for (int p = 0; p < 4; p++) {
            x.play(0, 0, 9, 0);
        }
        due.no("all are open: -1", x.stop(-1));
        due.no("all are open: 4", x.stop(4));
        for (int p = 3; p >= 0; p--) {
            due.yes("open: " + p, x.stop(p));
            due.no("open no more: " + p, x.stop(p));
        }
    }
}

/** Promise 14: seek. */
public final class Promise14SeekTest {
    private static final Due due = new Due("promise 14");

    public static void main(String[] args) {
        theLeastPosition();
        onlyKeptPackets();
        confirmedPacketsCount();
        timesThatBeginAnew();
        none();
        notMade();
        due.end();
    }

    private static ScrubbedRecorder withTimes(int... times) {
        ScrubbedRecorder x = Rig.withStore(true, 3);
        for (int time : times) {
            x.record(0, 1, time, 0);
        }
        return x;
    }

    private static void theLeastPosition() {
        due.says("The least position of the kept packets of a store with this time or a later one");
        ScrubbedRecorder x = withTimes(5, 7, 7, 10);
        due.is("before all", x.seek(0, Integer.MIN_VALUE), 0);
        due.is("just before", x.seek(0, 4), 0);
        due.is("the first", x.seek(0, 5), 0);
        due.is("between", x.seek(0, 6), 1);
        due.is("the least of two with the same", x.seek(0, 7), 1);
        due.is("a later one", x.seek(0, 8), 3);
        due.is("the last", x.seek(0, 10), 3);
    }

    private static void onlyKeptPackets() {
        due.says("The least position of the kept packets of a store with this time or a later one");
        ScrubbedRecorder x = Rig.withPackets(true, 3, 5, Rig.PAGE);
        due.is("0 and 1 are kept no more", x.seek(0, 0), 2);
        due.is("the last", x.seek(0, 4), 4);
    }

    private static void confirmedPacketsCount() {
        due.says("The least position of the kept packets of a store with this time or a later one");
        ScrubbedRecorder x = withTimes(5, 7);
        x.confirm(0, 0, 1);
        due.is("confirmed", x.seek(0, 0), 0);
    }

    /** Packet 1 runs on from a page that is freed; so none is kept, and the clock begins anew. */
    private static void timesThatBeginAnew() {
        due.says("The least position of the kept packets of a store with this time or a later one");
        ScrubbedRecorder x = Rig.withStore(false, 3);
        x.record(0, 1, 50, 40);
        x.record(0, 1, 60, 0);
        x.confirm(0, 0, 1);
        x.reset();
        due.is("none is kept", x.seek(0, 0), ScrubbedRecorder.NONE);
        x.record(0, 1, 3, 0);
        due.is("an earlier time at a later position", x.seek(0, 3), 2);
        due.is("the times of those gone do not count", x.seek(0, 4), ScrubbedRecorder.NONE);
    }

    private static void none() {
        due.says("NONE when there is none, or the store is not made.");
        due.is("no packets", Rig.withStore(true, 3).seek(0, 0), ScrubbedRecorder.NONE);
        ScrubbedRecorder x = withTimes(5, 10);
        due.is("just behind the last", x.seek(0, 11), ScrubbedRecorder.NONE);
        due.is("greatest int", x.seek(0, Integer.MAX_VALUE), ScrubbedRecorder.NONE);
        ScrubbedRecorder y = withTimes(5, Integer.MAX_VALUE);
        due.is("the greatest time is there", y.seek(0, Integer.MAX_VALUE), 1);
    }

    private static void notMade() {
        due.says("NONE when there is none, or the store is not made.");
        ScrubbedRecorder x = withTimes(5);
        int[] wrong = {-1, 1, 2, 3, 4, Integer.MIN_VALUE, Integer.MAX_VALUE};
        for (int k : wrong) {
            due.is("store " + k, x.seek(k, 0), ScrubbedRecorder.NONE);
        }
        x.dropStore(0);
        due.is("dropped", x.seek(0, 0), ScrubbedRecorder.NONE);
    }
}

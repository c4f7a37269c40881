/** Promise 12: count. */
public final class Promise12CountTest {
    private static final Due due = new Due("promise 12");

    public static void main(String[] args) {
        anEmptyStore();
        eachOfThem();
        ofABoundedStore();
        storesStandApart();
        storeNotMade();
        noSuchWhat();
        due.end();
    }

    private static void counts(ScrubbedRecorder x, int k, int... want) {
        for (int what = 0; what < want.length; what++) {
            due.is("count(" + k + ", " + what + ")", x.count(k, what), want[what]);
        }
    }

    private static void anEmptyStore() {
        due.says("Of a store that is made: what = 0 how many packets are kept, 1 how many of these are confirmed");
        counts(Rig.withStore(true, 3), 0, 0, 0, 0, 0, 0, 0);
        counts(Rig.withStore(false, 40), 0, 0, 0, 0, 0, 0, 0);
    }

    private static void eachOfThem() {
        due.says("2 its next position, 3 how many pages its chain has, 4 its clock, 5 how many packets are asked for.");
        ScrubbedRecorder x = Rig.withStore(true, 3);
        for (int n = 0; n < 6; n++) {
            x.record(0, n, 10 * n, 20);
        }
        // Seven words each: 0 and 1 begin in the first page, 2 and 3 in the second, and so on.
        x.confirm(0, 2, 3);
        x.gap(0, 4);
        counts(x, 0, 4, 2, 6, 3, 50, 1);
        x.confirm(0, 0, 9);
        counts(x, 0, 4, 4, 6, 3, 50, 0);
        x.record(0, 9, 50, 60);
        counts(x, 0, 3, 2, 7, 3, 50, 0);
    }

    private static void ofABoundedStore() {
        due.says("Of a store that is made: what = 0 how many packets are kept, 1 how many of these are confirmed");
        ScrubbedRecorder x = Rig.withPackets(false, 5, 5, Rig.PAGE);
        counts(x, 0, 5, 0, 5, 5, 4, 0);
        x.confirm(0, 1, 3);
        counts(x, 0, 5, 3, 5, 5, 4, 0);
        x.confirm(0, 0, 0);
        counts(x, 0, 1, 0, 5, 1, 4, 0);
    }

    private static void storesStandApart() {
        due.says("Of a store that is made: what = 0 how many packets are kept, 1 how many of these are confirmed");
        ScrubbedRecorder x = Rig.withPackets(true, 3, 2, 0);
        x.makeStore(3, false, 3);
        x.record(3, 9, 7, 60);
        x.gap(3, 0);
        x.confirm(0, 0, 0);
        counts(x, 0, 2, 1, 2, 1, 1, 0);
        counts(x, 3, 1, 0, 1, 2, 7, 1);
    }

    private static void storeNotMade() {
        due.says("BAD when it is not made or what is not 0 .. 5.");
        ScrubbedRecorder x = Rig.withStore(true, 3);
        int[] wrong = {-1, 1, 2, 3, 4, Integer.MIN_VALUE, Integer.MAX_VALUE};
        for (int k : wrong) {
            for (int what = 0; what < 6; what++) {
                due.is("count(" + k + ", " + what + ")", x.count(k, what), ScrubbedRecorder.BAD);
            }
        }
        x.dropStore(0);
        due.is("dropped", x.count(0, 2), ScrubbedRecorder.BAD);
    }

    private static void noSuchWhat() {
        due.says("BAD when it is not made or what is not 0 .. 5.");
        ScrubbedRecorder x = Rig.withPackets(true, 3, 1, 0);
        int[] wrong = {-1, 6, Integer.MIN_VALUE, Integer.MAX_VALUE};
        for (int what : wrong) {
            due.is("what " + what, x.count(0, what), ScrubbedRecorder.BAD);
            due.is("what " + what + " of a store not made", x.count(1, what), ScrubbedRecorder.BAD);
        }
    }
}

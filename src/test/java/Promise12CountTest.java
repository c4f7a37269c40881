/** Promise 12: count. */
public final class Promise12CountTest {
    private static final Due due = new Due("promise 12");

    public static void main(String[] args) {
        ScrubbedRecorder x = new ScrubbedRecorder();
        for (int what = 0; what < 6; what++) {
            due.is("not made", x.count(0, what), ScrubbedRecorder.BAD);
        }
        x.makeStore(0, true, 3);
        x.makeStore(1, false, 3);
        due.is("k -1", x.count(-1, 0), ScrubbedRecorder.BAD);
        due.is("k 4", x.count(4, 0), ScrubbedRecorder.BAD);
        due.is("what -1", x.count(0, -1), ScrubbedRecorder.BAD);
        due.is("what 6", x.count(0, 6), ScrubbedRecorder.BAD);
        counts(x, 0, 0, 0, 0, 0, 0, 0);
        for (int n = 0; n < 6; n++) {
            x.record(0, n, 10 * n, 20);
        }
        // Seven words each: 0 and 1 begin in the first page, 2 and 3 in the second, and so on.
        x.confirm(0, 2, 3);
        x.gap(0, 4);
        counts(x, 0, 4, 2, 6, 3, 50, 1);
        x.record(1, 9, 7, 0);
        counts(x, 1, 1, 0, 1, 1, 7, 0);
        counts(x, 0, 4, 2, 6, 3, 50, 1);
        due.end();
    }

    private static void counts(ScrubbedRecorder x, int k, int... want) {
        for (int what = 0; what < want.length; what++) {
            due.is("count(" + k + ", " + what + ")", x.count(k, what), want[what]);
        }
    }
}

/** Promise 14: seek. */
public final class Promise14SeekTest {
    private static final Due due = new Due("promise 14");

    public static void main(String[] args) {
        ScrubbedRecorder x = new ScrubbedRecorder();
        due.is("not made", x.seek(0, 0), ScrubbedRecorder.NONE);
        due.is("k -1", x.seek(-1, 0), ScrubbedRecorder.NONE);
        due.is("k 4", x.seek(4, 0), ScrubbedRecorder.NONE);
        x.makeStore(0, true, 3);
        due.is("no packets", x.seek(0, 0), ScrubbedRecorder.NONE);
        int[] times = {5, 7, 7, 10};
        for (int n = 0; n < times.length; n++) {
            x.record(0, n, times[n], 0);
        }
        due.is("before all", x.seek(0, Integer.MIN_VALUE), 0);
        due.is("the first", x.seek(0, 5), 0);
        due.is("between", x.seek(0, 6), 1);
        due.is("the least of two with the same", x.seek(0, 7), 1);
        due.is("a later one", x.seek(0, 8), 3);
        due.is("the last", x.seek(0, 10), 3);
        due.is("behind all", x.seek(0, 11), ScrubbedRecorder.NONE);
        due.is("greatest int", x.seek(0, Integer.MAX_VALUE), ScrubbedRecorder.NONE);
        x.confirm(0, 0, 1);
        due.is("confirmed packets count", x.seek(0, 0), 0);
        for (int n = 0; n < 3; n++) {
            x.record(0, 1, 20, 44);
        }
        due.is("packets kept no more do not, 4 began in the freed page, too", x.seek(0, 0), 5);
        due.end();
    }
}

/** Promise 11: gap. */
public final class Promise11GapTest {
    private static final Due due = new Due("promise 11");

    public static void main(String[] args) {
        ScrubbedRecorder x = new ScrubbedRecorder();
        due.no("not made", x.gap(0, 0));
        due.no("k -1", x.gap(-1, 0));
        due.no("k 4", x.gap(4, 0));
        x.makeStore(0, true, 3);
        due.no("no packet yet", x.gap(0, 0));
        for (int n = 0; n < 3; n++) {
            x.record(0, n, n, 44);
        }
        due.no("below all", x.gap(0, -1));
        due.no("above all", x.gap(0, 3));
        due.no("least int", x.gap(0, Integer.MIN_VALUE));
        due.no("greatest int", x.gap(0, Integer.MAX_VALUE));
        due.is("asked for", x.count(0, 5), 0);
        due.yes("kept", x.gap(0, 0));
        due.no("asked for already", x.gap(0, 0));
        due.yes("the last", x.gap(0, 2));
        x.confirm(0, 1, 2);
        due.no("confirmed", x.gap(0, 1));
        due.no("confirmed, was asked for", x.gap(0, 2));
        due.is("asked for", x.count(0, 5), 1);
        x.record(0, 3, 3, 0);
        due.no("kept no more", x.gap(0, 0));
        due.is("asked for no more", x.count(0, 5), 0);
        due.yes("the newest", x.gap(0, 3));
        x.play(0, 0, 9, 0);
        x.frame();
        due.yes("sent: it may be asked for again", x.gap(0, 3));
        due.end();
    }
}

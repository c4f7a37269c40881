/** Promise 2: makeStore. */
public final class Promise02MakeStoreTest {
    private static final Due due = new Due("promise 2");

    public static void main(String[] args) {
        wrongInputs();
        answersWhatIsPromisedToNone();
        aNewStoreIsEmpty();
        itSavesAll();
        due.end();
    }

    private static void wrongInputs() {
        ScrubbedRecorder x = new ScrubbedRecorder();
        due.is("k -1", x.makeStore(-1, true, 3), ScrubbedRecorder.BAD);
        due.is("k 4", x.makeStore(4, true, 3), ScrubbedRecorder.BAD);
        due.is("2 pages", x.makeStore(0, true, 2), ScrubbedRecorder.BAD);
        due.is("41 pages", x.makeStore(0, true, 41), ScrubbedRecorder.BAD);
        due.is("least int", x.makeStore(Integer.MIN_VALUE, false, Integer.MIN_VALUE), ScrubbedRecorder.BAD);
        due.is("greatest int", x.makeStore(0, false, Integer.MAX_VALUE), ScrubbedRecorder.BAD);
        due.is("still not made", x.count(0, 0), ScrubbedRecorder.BAD);
        due.is("3 pages", x.makeStore(0, true, 3), 37);
        due.is("BAD stands before TAKEN", x.makeStore(0, true, 2), ScrubbedRecorder.BAD);
        due.is("TAKEN stands before FULL", x.makeStore(0, true, 40), ScrubbedRecorder.TAKEN);
        due.is("taken", x.makeStore(0, false, 3), ScrubbedRecorder.TAKEN);
        due.is("one page too many", x.makeStore(1, true, 38), ScrubbedRecorder.FULL);
        due.is("refused: not made", x.count(1, 0), ScrubbedRecorder.BAD);
    }

    private static void answersWhatIsPromisedToNone() {
        ScrubbedRecorder x = new ScrubbedRecorder();
        due.is("first", x.makeStore(3, true, 10), 30);
        due.is("second", x.makeStore(1, false, 20), 10);
        due.is("third, exactly the rest", x.makeStore(0, true, 10), 0);
        due.is("nothing is left", x.makeStore(2, true, 3), ScrubbedRecorder.FULL);
        due.yes("dropStore", x.dropStore(1));
        due.is("what was given back", x.makeStore(2, true, 5), 15);
        due.is("pages are free until they are opened", x.told(2), 40);
    }

    private static void aNewStoreIsEmpty() {
        ScrubbedRecorder x = new ScrubbedRecorder();
        x.makeStore(0, true, 3);
        x.record(0, 1, 9, 60);
        x.dropStore(0);
        x.makeStore(0, false, 4);
        int[] empty = {0, 0, 0, 0, 0, 0};
        for (int what = 0; what < empty.length; what++) {
            due.is("count " + what, x.count(0, what), empty[what]);
        }
        due.is("positions begin anew", x.record(0, 1, 0, 0), 0);
    }

    private static void itSavesAll() {
        ScrubbedRecorder x = new ScrubbedRecorder();
        x.makeStore(0, true, 3);
        x.record(0, 1, 1, 0);
        x.record(0, 1, 1, 0);
        x.confirm(0, 0, 0);
        x.makeStore(1, true, 3);
        x.confirm(0, 1, 1);
        due.is("refused", x.makeStore(1, true, 3), ScrubbedRecorder.TAKEN);
        due.is("refused", x.makeStore(2, true, 40), ScrubbedRecorder.FULL);
        due.is("refused", x.makeStore(2, true, 0), ScrubbedRecorder.BAD);
        x.reset();
        due.is("only what was saved is confirmed", x.count(0, 1), 1);
        due.no("it is packet 0", x.gap(0, 0));
        due.yes("not packet 1", x.gap(0, 1));
    }
}

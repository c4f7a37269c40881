/** Promise 2: makeStore. */
public final class Promise02MakeStoreTest {
    private static final Due due = new Due("promise 2");

    public static void main(String[] args) {
        itMakesAStore();
        itSavesAll();
        refusedItSavesNothing();
        answersWhatIsPromisedToNone();
        badStores();
        badPages();
        taken();
        full();
        due.end();
    }

    private static void itMakesAStore() {
        due.says("Makes a store; then all is saved.");
        ScrubbedRecorder x = new ScrubbedRecorder();
        for (int k = 0; k < 4; k++) {
            x.makeStore(k, k % 2 == 0, 3);
            Rig.recordMore(x, k, 3, Rig.PAGE);
            due.is("record into a full store", x.record(k, 1, 9, 0), k % 2 == 0 ? 3 : ScrubbedRecorder.FULL);
        }
    }

    private static void itSavesAll() {
        due.says("Makes a store; then all is saved.");
        ScrubbedRecorder x = Rig.withPackets(true, 3, 2, 0);
        x.makeStore(3, true, 3);
        Rig.recordMore(x, 3, 2, 0);
        x.confirm(0, 0, 0);
        x.confirm(3, 1, 1);
        x.makeStore(1, true, 3);
        x.confirm(0, 1, 1);
        x.reset();
        due.is("confirmed in store 0", x.count(0, 1), 1);
        due.no("it is packet 0", x.gap(0, 0));
        due.is("confirmed in store 3", x.count(3, 1), 1);
        due.no("it is packet 1", x.gap(3, 1));
    }

    private static void refusedItSavesNothing() {
        due.says("Makes a store; then all is saved.");
        ScrubbedRecorder x = Rig.withPackets(true, 3, 2, 0);
        x.confirm(0, 0, 1);
        due.is("taken", x.makeStore(0, true, 3), ScrubbedRecorder.TAKEN);
        due.is("full", x.makeStore(2, true, 40), ScrubbedRecorder.FULL);
        due.is("bad", x.makeStore(2, true, 0), ScrubbedRecorder.BAD);
        x.reset();
        due.is("confirmed", x.count(0, 1), 0);
    }

    private static void answersWhatIsPromisedToNone() {
        due.says("Answers how many pages are promised to no store then (40 less the quotas of all that are made).");
        due.is("the least quota", new ScrubbedRecorder().makeStore(0, true, 3), 37);
        due.is("the greatest quota", new ScrubbedRecorder().makeStore(0, true, 40), 0);
        ScrubbedRecorder x = new ScrubbedRecorder();
        due.is("first", x.makeStore(3, true, 10), 30);
        due.is("second", x.makeStore(1, false, 20), 10);
        Rig.recordMore(x, 1, 5, Rig.PAGE);
        due.is("third, exactly the rest", x.makeStore(0, true, 10), 0);
        x.dropStore(1);
        due.is("what was dropped is promised to none", x.makeStore(2, true, 5), 15);
        due.is("made again", x.makeStore(1, true, 3), 12);
    }

    private static void badStores() {
        due.says("BAD when k is not 0 .. 3 or pages not 3 .. 40");
        ScrubbedRecorder x = new ScrubbedRecorder();
        int[] wrong = {-1, 4, 5, Integer.MIN_VALUE, Integer.MAX_VALUE};
        for (int k : wrong) {
            due.is("k " + k, x.makeStore(k, true, 3), ScrubbedRecorder.BAD);
        }
        for (int k = 0; k < 4; k++) {
            due.is("k " + k, x.makeStore(k, true, 3), 37 - 3 * k);
        }
    }

    private static void badPages() {
        due.says("BAD when k is not 0 .. 3 or pages not 3 .. 40");
        ScrubbedRecorder x = new ScrubbedRecorder();
        int[] wrong = {2, 1, 0, -1, 41, Integer.MIN_VALUE, Integer.MAX_VALUE};
        for (int pages : wrong) {
            due.is(pages + " pages", x.makeStore(0, true, pages), ScrubbedRecorder.BAD);
        }
        due.is("still not made", x.count(0, 0), ScrubbedRecorder.BAD);
        for (int pages = 3; pages <= 40; pages++) {
            due.is(pages + " pages", x.makeStore(0, true, pages), 40 - pages);
            x.dropStore(0);
        }
    }

    private static void taken() {
        due.says("TAKEN when it is made");
        ScrubbedRecorder x = new ScrubbedRecorder();
        for (int k = 0; k < 4; k++) {
            x.makeStore(k, true, 3);
            due.is("made", x.makeStore(k, false, 3), ScrubbedRecorder.TAKEN);
        }
        x.dropStore(2);
        due.is("dropped", x.makeStore(2, true, 3), 28);
        due.is("made again", x.makeStore(2, true, 3), ScrubbedRecorder.TAKEN);
    }

    private static void full() {
        due.says("FULL when pages is more than is promised to none.");
        ScrubbedRecorder x = Rig.withStore(true, 30);
        due.is("one more", x.makeStore(1, true, 11), ScrubbedRecorder.FULL);
        due.is("not made", x.count(1, 0), ScrubbedRecorder.BAD);
        due.is("just as many", x.makeStore(1, true, 10), 0);
        due.is("the least, and none is left", x.makeStore(2, true, 3), ScrubbedRecorder.FULL);
        x.dropStore(1);
        due.is("all but two", x.makeStore(1, true, 8), 2);
        due.is("the least, and two are left", x.makeStore(2, true, 3), ScrubbedRecorder.FULL);
    }
}

/** Promise 10: confirm. */
public final class Promise10ConfirmTest {
    private static final Due due = new Due("promise 10");

    public static void main(String[] args) {
        fromAndToBelongToIt();
        onlyKeptPackets();
        farBeyondAll();
        confirmedIsAskedForNoMore();
        boundedStoresArePruned();
        thePageThatHoldsTheOthers();
        circularStoresAreNotPruned();
        answersTheNewOnes();
        badStore();
        badRange();
        due.end();
    }

    private static void fromAndToBelongToIt() {
        due.says("All kept packets of a store with positions from .. to are confirmed");
        ScrubbedRecorder x = Rig.withPackets(true, 5, 6, 0);
        x.makeStore(1, true, 5);
        Rig.recordMore(x, 1, 6, 0);
        x.gap(1, 3);
        due.is("confirm", x.confirm(0, 2, 4), 3);
        for (int position = 0; position < 6; position++) {
            boolean confirmed = position >= 2 && position <= 4;
            due.is("packet " + position, x.gap(0, position) ? 0 : 1, confirmed ? 1 : 0);
        }
        due.is("another store's are not", x.count(1, 1), 0);
        due.is("nor are they asked for no more", x.count(1, 5), 1);
        due.is("from and to may be the same", x.confirm(0, 5, 5), 1);
    }

    private static void onlyKeptPackets() {
        due.says("All kept packets of a store with positions from .. to are confirmed");
        ScrubbedRecorder x = Rig.withPackets(true, 3, 5, Rig.PAGE);
        due.is("kept no more", x.confirm(0, 0, 1), 0);
        due.is("one of them is kept", x.confirm(0, 0, 2), 1);
        due.is("not recorded yet", x.confirm(0, 5, 9), 0);
        Rig.recordMore(x, 0, 1, 0);
        due.is("a later one is not confirmed", x.count(0, 1), 0);
    }

    private static void farBeyondAll() {
        due.says("All kept packets of a store with positions from .. to are confirmed");
        ScrubbedRecorder x = Rig.withStore(true, 5);
        due.is("no packets at all", x.confirm(0, Integer.MIN_VALUE, Integer.MAX_VALUE), 0);
        Rig.recordMore(x, 0, 4, 0);
        due.is("below all", x.confirm(0, Integer.MIN_VALUE, -1), 0);
        due.is("above all", x.confirm(0, 4, Integer.MAX_VALUE), 0);
        due.is("up to the first", x.confirm(0, Integer.MIN_VALUE, 0), 1);
        due.is("from the last", x.confirm(0, 3, Integer.MAX_VALUE), 1);
        due.is("all", x.confirm(0, Integer.MIN_VALUE, Integer.MAX_VALUE), 2);
    }

    private static void confirmedIsAskedForNoMore() {
        due.says("All kept packets of a store with positions from .. to are confirmed");
        ScrubbedRecorder x = Rig.withPackets(true, 5, 4, 0);
        for (int position = 0; position < 4; position++) {
            x.gap(0, position);
        }
        x.confirm(0, 1, 2);
        due.is("asked for", x.count(0, 5), 2);
        x.play(0, 0, 9, 0);
        due.is("the first of the others", Rig.nextSent(x), 0);
        due.is("the second", Rig.nextSent(x), 3);
        due.is("no confirmed one is sent", Rig.nextSent(x), 0);
    }

    private static void boundedStoresArePruned() {
        due.says("then the store is pruned, if it is bounded.");
        ScrubbedRecorder x = Rig.withPackets(false, 6, 10, 18);
        // Seven words each: two begin in each of five pages, and the last runs on into a sixth.
        due.is("pages", x.count(0, 3), 6);
        due.is("only the second page's", x.confirm(0, 2, 3), 2);
        due.is("the first page is not done", x.count(0, 3), 6);
        due.is("one of the first page's", x.confirm(0, 0, 0), 1);
        due.is("it is still not done", x.count(0, 3), 6);
        due.is("the other", x.confirm(0, 1, 1), 1);
        due.is("both pages are freed", x.count(0, 3), 4);
        due.is("kept", x.count(0, 0), 6);
        due.is("confirmed of these", x.count(0, 1), 0);
        due.is("the rest", x.confirm(0, 0, 99), 6);
        due.is("the last page stays", x.count(0, 3), 1);
        due.is("none begins in it", x.count(0, 0), 0);
        due.is("the next position stays", x.count(0, 2), 10);
        due.is("the clock stays", x.count(0, 4), 9);
        due.is("free pages", x.told(2), 39);
        due.is("it goes on in the last page", x.record(0, 1, 9, 16), 10);
        due.is("6 words behind 5", x.count(0, 3), 1);
    }

    private static void thePageThatHoldsTheOthers() {
        due.says("then the store is pruned, if it is bounded.");
        ScrubbedRecorder x = Rig.withPackets(false, 3, 2, Rig.PAGE);
        due.is("the second page's", x.confirm(0, 1, 1), 1);
        due.is("pages", x.count(0, 3), 2);
        due.is("again", x.confirm(0, 1, 1), 0);
        due.is("pages", x.count(0, 3), 2);
        due.is("the first page's", x.confirm(0, 0, 1), 1);
        due.is("pages", x.count(0, 3), 1);
    }

    private static void circularStoresAreNotPruned() {
        due.says("then the store is pruned, if it is bounded.");
        ScrubbedRecorder x = Rig.withPackets(true, 3, 3, Rig.PAGE);
        due.is("confirm", x.confirm(0, 0, 2), 3);
        due.is("pages", x.count(0, 3), 3);
        due.is("kept", x.count(0, 0), 3);
    }

    private static void answersTheNewOnes() {
        due.says("Answers how many were not confirmed before.");
        ScrubbedRecorder x = Rig.withPackets(true, 10, 8, 0);
        due.is("one", x.confirm(0, 3, 3), 1);
        due.is("again", x.confirm(0, 3, 3), 0);
        due.is("with those around", x.confirm(0, 2, 4), 2);
        due.is("confirmed", x.count(0, 1), 3);
        due.is("all", x.confirm(0, 0, 7), 5);
        due.is("all again", x.confirm(0, 0, 7), 0);

        ScrubbedRecorder y = Rig.withPackets(false, 3, 3, Rig.PAGE);
        due.is("those that are pruned count, too", y.confirm(0, 0, 2), 3);
    }

    private static void badStore() {
        due.says("BAD when the store is not made, or from is greater than to.");
        ScrubbedRecorder x = Rig.withPackets(true, 3, 1, 0);
        int[] wrong = {-1, 1, 2, 3, 4, Integer.MIN_VALUE, Integer.MAX_VALUE};
        for (int k : wrong) {
            due.is("store " + k, x.confirm(k, 0, 0), ScrubbedRecorder.BAD);
        }
        x.dropStore(0);
        due.is("dropped", x.confirm(0, 0, 0), ScrubbedRecorder.BAD);
    }

    private static void badRange() {
        due.says("BAD when the store is not made, or from is greater than to.");
        ScrubbedRecorder x = Rig.withPackets(true, 3, 3, 0);
        due.is("by one", x.confirm(0, 1, 0), ScrubbedRecorder.BAD);
        due.is("by all", x.confirm(0, Integer.MAX_VALUE, Integer.MIN_VALUE), ScrubbedRecorder.BAD);
        due.is("below all", x.confirm(0, -1, -2), ScrubbedRecorder.BAD);
        due.is("nothing is confirmed", x.count(0, 1), 0);
        due.is("the same", x.confirm(0, 1, 1), 1);
    }
}

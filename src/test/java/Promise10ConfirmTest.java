/** Promise 10: confirm. */
public final class Promise10ConfirmTest {
    private static final Due due = new Due("promise 10");

    public static void main(String[] args) {
        wrongInputs();
        answersTheNewOnes();
        boundedStoresArePruned();
        pagesWithoutPacketsArePruned();
        freeingWritesWordZero();
        due.end();
    }

    private static void wrongInputs() {
        ScrubbedRecorder x = new ScrubbedRecorder();
        due.is("not made", x.confirm(0, 0, 0), ScrubbedRecorder.BAD);
        due.is("k -1", x.confirm(-1, 0, 0), ScrubbedRecorder.BAD);
        due.is("k 4", x.confirm(4, 0, 0), ScrubbedRecorder.BAD);
        x.makeStore(0, true, 3);
        x.record(0, 1, 1, 0);
        due.is("from above to", x.confirm(0, 1, 0), ScrubbedRecorder.BAD);
        due.is("from far above to", x.confirm(0, Integer.MAX_VALUE, Integer.MIN_VALUE), ScrubbedRecorder.BAD);
        due.is("nothing is confirmed", x.count(0, 1), 0);
    }

    private static void answersTheNewOnes() {
        ScrubbedRecorder x = new ScrubbedRecorder();
        x.makeStore(0, true, 10);
        due.is("no packets", x.confirm(0, 0, 9), 0);
        for (int n = 0; n < 8; n++) {
            x.record(0, 1, 1, 0);
        }
        x.gap(0, 3);
        x.gap(0, 4);
        due.is("below all", x.confirm(0, Integer.MIN_VALUE, -1), 0);
        due.is("above all", x.confirm(0, 8, Integer.MAX_VALUE), 0);
        due.is("one", x.confirm(0, 3, 3), 1);
        due.is("it is asked for no more", x.count(0, 5), 1);
        due.is("again", x.confirm(0, 3, 3), 0);
        due.is("with those around", x.confirm(0, 2, 4), 2);
        due.is("confirmed", x.count(0, 1), 3);
        due.is("none is asked for", x.count(0, 5), 0);
        due.is("all", x.confirm(0, Integer.MIN_VALUE, Integer.MAX_VALUE), 5);
        due.is("a circular store keeps them", x.count(0, 0), 8);
        x.record(0, 1, 1, 0);
        due.is("a later one is not confirmed", x.count(0, 1), 8);
    }

    private static void boundedStoresArePruned() {
        ScrubbedRecorder x = new ScrubbedRecorder();
        x.makeStore(0, false, 6);
        for (int n = 0; n < 5; n++) {
            x.record(0, n, n, 18);
            x.record(0, n, n, 18);
        }
        // Seven words each: two begin in each of five pages, and the last runs on into a sixth.
        due.is("pages", x.count(0, 3), 6);
        due.is("only the second page's", x.confirm(0, 2, 3), 2);
        due.is("the first page is not done", x.count(0, 3), 6);
        due.is("one of the first page's", x.confirm(0, 0, 0), 1);
        due.is("it is still not done", x.count(0, 3), 6);
        due.is("the other", x.confirm(0, 1, 1), 1);
        due.is("both pages are freed", x.count(0, 3), 4);
        due.is("kept", x.count(0, 0), 6);
        due.is("confirmed of these", x.count(0, 1), 0);
        due.is("least kept", x.seek(0, 0), 4);
        due.is("the rest", x.confirm(0, 0, 99), 6);
        due.is("the last page stays", x.count(0, 3), 1);
        due.is("free pages", x.told(2), 39);
    }

    private static void pagesWithoutPacketsArePruned() {
        ScrubbedRecorder x = new ScrubbedRecorder();
        x.makeStore(0, false, 6);
        x.record(0, 1, 1, 40);
        x.record(0, 2, 2, 60);
        due.is("17 words behind 12", x.count(0, 3), 3);
        due.is("confirm both", x.confirm(0, 0, 1), 2);
        due.is("the page in which none begins is freed, too", x.count(0, 3), 1);
        due.is("none is kept", x.count(0, 0), 0);
        due.is("the next position stays", x.count(0, 2), 2);
        due.is("the clock stays", x.count(0, 4), 2);
        due.is("it goes on in the last page", x.record(0, 3, 3, 32), 2);
        due.is("10 words behind 3", x.count(0, 3), 1);
        due.is("a full page", x.record(0, 4, 4, 0), 3);
        due.is("two pages", x.count(0, 3), 2);
    }

    private static void freeingWritesWordZero() {
        ScrubbedRecorder x = new ScrubbedRecorder();
        x.makeStore(0, false, 3);
        x.record(0, 1, 1, 44);
        x.record(0, 2, 2, 0);
        x.flip(1, 0, 0);
        x.flip(1, 1, 0);
        x.flip(0, 0, 0);
        x.flip(2, 0, 0);
        x.confirm(0, 0, 0);
        due.is("word 0 of page 0 and of its parity", x.told(4), 2);
    }
}

/** Promise 19: checkpoint. */
public final class Promise19CheckpointTest {
    private static final Due due = new Due("promise 19");

    public static void main(String[] args) {
        wordsForRuns();
        savesOnlyWithEnoughWords();
        aLaterOneReplacesIt();
        due.end();
    }

    private static ScrubbedRecorder withPackets(int packets) {
        ScrubbedRecorder x = new ScrubbedRecorder();
        x.makeStore(0, true, 10);
        x.makeStore(3, true, 3);
        for (int n = 0; n < packets; n++) {
            x.record(0, 1, 1, 0);
        }
        return x;
    }

    private static void wordsForRuns() {
        due.is("a new object", new ScrubbedRecorder().checkpoint(0), 6);
        ScrubbedRecorder x = withPackets(10);
        due.is("words -1", x.checkpoint(-1), ScrubbedRecorder.BAD);
        due.is("least int", x.checkpoint(Integer.MIN_VALUE), ScrubbedRecorder.BAD);
        due.is("no run", x.checkpoint(0), 6);
        x.confirm(0, 2, 4);
        due.is("one run of three", x.checkpoint(0), 8);
        x.confirm(0, 6, 6);
        due.is("two runs", x.checkpoint(0), 10);
        x.confirm(0, 0, 0);
        x.confirm(0, 9, 9);
        due.is("four runs", x.checkpoint(0), 14);
        x.confirm(0, 5, 5);
        due.is("two of them joined", x.checkpoint(0), 12);
        x.record(3, 1, 1, 44);
        x.record(3, 1, 1, 44);
        x.record(3, 1, 1, 44);
        x.confirm(3, 0, 0);
        due.is("one of another store", x.checkpoint(0), 14);
        x.confirm(3, 2, 2);
        due.is("two of another store", x.checkpoint(0), 16);
        x.record(3, 1, 1, 44);
        due.is("one that is kept no more", x.checkpoint(0), 14);
        x.confirm(0, 0, 9);
        due.is("all in one", x.checkpoint(Integer.MAX_VALUE), 10);
    }

    private static void savesOnlyWithEnoughWords() {
        ScrubbedRecorder x = withPackets(3);
        x.confirm(0, 0, 0);
        due.is("just enough", x.checkpoint(8), 8);
        x.confirm(0, 2, 2);
        due.is("one too few", x.checkpoint(9), 10);
        due.is("refused", x.checkpoint(-1), ScrubbedRecorder.BAD);
        x.reset();
        due.is("what was saved before stays", x.count(0, 1), 1);
        due.no("it is packet 0", x.gap(0, 0));
    }

    private static void aLaterOneReplacesIt() {
        ScrubbedRecorder x = withPackets(3);
        x.confirm(0, 0, 0);
        x.checkpoint(100);
        x.confirm(0, 1, 1);
        x.checkpoint(8);
        x.confirm(0, 2, 2);
        x.reset();
        due.is("confirmed when it was saved last", x.count(0, 1), 2);
        due.yes("packet 2 is not", x.gap(0, 2));
    }
}

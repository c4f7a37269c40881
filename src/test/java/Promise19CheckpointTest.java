/** Promise 19: checkpoint. */
public final class Promise19CheckpointTest {
    private static final Due due = new Due("promise 19");

    public static void main(String[] args) {
        justEnoughWords();
        oneWordTooFew();
        sixWords();
        aLaterOneReplacesIt();
        answersHowManyItTakes();
        bad();
        due.end();
    }

    private static void justEnoughWords() {
        due.says("Saves, if words is at least as many words as that takes");
        int[] enough = {8, 9, Integer.MAX_VALUE};
        for (int words : enough) {
            ScrubbedRecorder x = Rig.withPackets(true, 10, 3, 0);
            x.confirm(0, 1, 1);
            due.is("checkpoint", x.checkpoint(words), 8);
            x.reset();
            due.is("confirmed", x.count(0, 1), 1);
            due.no("it is packet 1", x.gap(0, 1));
        }
    }

    private static void oneWordTooFew() {
        due.says("(otherwise it is broken off, and what was saved before stays)");
        int[] fewer = {9, 8, 1, 0};
        for (int words : fewer) {
            ScrubbedRecorder x = Rig.withPackets(true, 10, 3, 0);
            x.confirm(0, 0, 0);
            x.checkpoint(8);
            x.confirm(0, 2, 2);
            due.is("checkpoint", x.checkpoint(words), 10);
            x.reset();
            due.is("what was saved before", x.count(0, 1), 1);
            due.no("it is packet 0", x.gap(0, 0));
        }
    }

    private static void sixWords() {
        due.says("Saves, if words is at least as many words as that takes");
        ScrubbedRecorder x = Rig.withPackets(true, 3, 3, Rig.PAGE);
        x.confirm(0, 0, 0);
        x.checkpoint(8);
        x.reset();
        Rig.recordMore(x, 0, 1, 0);
        due.is("none is confirmed, one word too few", x.checkpoint(5), 6);
        due.is("just enough", x.checkpoint(6), 6);
        due.is("a new object", new ScrubbedRecorder().checkpoint(0), 6);
    }

    private static void aLaterOneReplacesIt() {
        due.says("Saves, if words is at least as many words as that takes");
        ScrubbedRecorder x = Rig.withPackets(true, 10, 3, 0);
        x.confirm(0, 0, 0);
        x.checkpoint(100);
        x.confirm(0, 1, 1);
        x.checkpoint(8);
        x.confirm(0, 2, 2);
        x.reset();
        due.is("confirmed when it was saved last", x.count(0, 1), 2);
        due.yes("packet 2 is not", x.gap(0, 2));
    }

    private static void answersHowManyItTakes() {
        due.says("Answers how many it takes.");
        ScrubbedRecorder x = Rig.withPackets(true, 10, 10, 0);
        x.makeStore(3, true, 3);
        Rig.recordMore(x, 3, 3, Rig.PAGE);
        due.is("no run", x.checkpoint(0), 6);
        x.confirm(0, 2, 4);
        due.is("one run of three", x.checkpoint(0), 8);
        due.is("also when it saves", x.checkpoint(100), 8);
        x.confirm(0, 6, 6);
        due.is("two runs", x.checkpoint(0), 10);
        x.confirm(0, 0, 0);
        x.confirm(0, 9, 9);
        due.is("four runs", x.checkpoint(0), 14);
        x.confirm(0, 5, 5);
        due.is("two of them joined", x.checkpoint(0), 12);
        x.confirm(3, 0, 0);
        x.confirm(3, 2, 2);
        due.is("two of another store", x.checkpoint(0), 16);
        Rig.recordMore(x, 3, 1, Rig.PAGE);
        due.is("one that is kept no more", x.checkpoint(0), 14);

        ScrubbedRecorder y = Rig.withPackets(true, 3, 3, Rig.PAGE);
        y.confirm(0, 0, 2);
        Rig.recordMore(y, 0, 1, Rig.PAGE);
        due.is("what is left of a run is a run", y.checkpoint(0), 8);
        Rig.recordMore(y, 0, 2, Rig.PAGE);
        due.is("until nothing is left", y.checkpoint(0), 6);
    }

    private static void bad() {
        due.says("BAD when words is less than 0.");
        ScrubbedRecorder x = Rig.withPackets(true, 3, 1, 0);
        x.confirm(0, 0, 0);
        due.is("words -1", x.checkpoint(-1), ScrubbedRecorder.BAD);
        due.is("least int", x.checkpoint(Integer.MIN_VALUE), ScrubbedRecorder.BAD);
        due.is("words 0", x.checkpoint(0), 8);
        x.reset();
        due.is("nothing was saved", x.count(0, 1), 0);
    }
}

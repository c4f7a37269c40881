/** Promise 17: latch. */
public final class Promise17LatchTest {
    private static final Due due = new Due("promise 17");

    public static void main(String[] args) {
        wrongInputs();
        oneAtATime();
        twoFlippedBitsElsewhere();
        itsFlippedBitsAreGone();
        due.end();
    }

    private static void wrongInputs() {
        ScrubbedRecorder x = new ScrubbedRecorder();
        due.no("module -1", x.latch(-1));
        due.no("module 6", x.latch(6));
        due.no("least int", x.latch(Integer.MIN_VALUE));
        due.is("all are on", x.told(3), 0);
        due.yes("module 5", x.latch(5));
        due.is("all rows", x.told(3), 8);
    }

    private static void oneAtATime() {
        ScrubbedRecorder x = new ScrubbedRecorder();
        due.yes("latch", x.latch(0));
        due.no("itself again", x.latch(0));
        due.no("another", x.latch(1));
        x.power(0);
        due.no("itself, blank", x.latch(0));
        for (int row = 0; row < 7; row++) {
            x.tick(0);
            due.no("blank in some row", x.latch(1));
        }
        x.tick(0);
        due.yes("all rows are rebuilt", x.latch(1));
        due.no("the first is on", x.power(0));
        due.yes("the second is off", x.power(1));
    }

    private static void twoFlippedBitsElsewhere() {
        ScrubbedRecorder x = new ScrubbedRecorder();
        x.flip(5, 127, 0);
        x.flip(0, 0, 0);
        x.flip(5, 127, 1);
        for (int module = 0; module < 5; module++) {
            due.no("a word of module 5 has two", x.latch(module));
        }
        x.flip(0, 0, 1);
        due.no("now one of module 0 has, too", x.latch(5));
        due.no("and one of module 5", x.latch(0));
        x.flip(0, 0, 1);
        due.yes("only its own has two", x.latch(5));
        due.is("the word of module 0 stays flipped", x.told(4), 1);
    }

    private static void itsFlippedBitsAreGone() {
        ScrubbedRecorder x = new ScrubbedRecorder();
        for (int word = 0; word < 128; word++) {
            x.flip(2, word, 0);
            x.flip(2, word, 1);
        }
        x.flip(1, 127, 0);
        x.flip(3, 0, 0);
        due.yes("latch", x.latch(2));
        due.is("missing words have none", x.told(4), 2);
        x.power(2);
        for (int row = 0; row < 8; row++) {
            x.tick(0);
        }
        due.is("nor when they are there again", x.told(4), 2);
    }
}

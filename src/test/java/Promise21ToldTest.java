/** Promise 21: told. */
public final class Promise21ToldTest {
    private static final Due due = new Due("promise 21");

    public static void main(String[] args) {
        wordsCorrected();
        wordsMended();
        freePages();
        rowsOffOrBlank();
        wordsWithFlippedBits();
        noSuchWhat();
        due.end();
    }

    private static void wordsCorrected() {
        due.says("What = 0: how many words were corrected in all (reset or not)");
        ScrubbedRecorder x = new ScrubbedRecorder();
        due.is("at first", x.told(0), 0);
        x.flip(0, 0, 0);
        x.flip(5, 127, 0);
        x.tick(1);
        due.is("one", x.told(0), 1);
        x.reset();
        due.is("reset", x.told(0), 1);
        x.tick(768);
        due.is("two", x.told(0), 2);
        x.flip(0, 0, 0);
        x.flip(0, 0, 0);
        x.tick(768);
        due.is("a bit that flipped back is not corrected", x.told(0), 2);
    }

    private static void wordsMended() {
        due.says("1: how many were mended");
        ScrubbedRecorder x = new ScrubbedRecorder();
        due.is("at first", x.told(1), 0);
        Rig.flipTwo(x, 0, 0);
        Rig.flipTwo(x, 5, 127);
        x.tick(1);
        due.is("one", x.told(1), 1);
        x.reset();
        due.is("reset", x.told(1), 1);
        x.tick(768);
        due.is("two", x.told(1), 2);
        due.is("none was corrected", x.told(0), 0);
    }

    private static void freePages() {
        due.says("2: how many pages are free");
        ScrubbedRecorder x = Rig.withStore(true, 3);
        x.makeStore(1, false, 37);
        due.is("all", x.told(2), 40);
        x.record(0, 1, 1, 60);
        x.record(1, 1, 1, 0);
        due.is("all but three", x.told(2), 37);
        Rig.recordMore(x, 0, 3, Rig.PAGE);
        due.is("a full chain", x.told(2), 36);
        Rig.recordMore(x, 1, 36, Rig.PAGE);
        due.is("none", x.told(2), 0);
        x.dropStore(1);
        due.is("dropped", x.told(2), 37);
    }

    private static void rowsOffOrBlank() {
        due.says("3: in how many rows a module is off (all 8) or blank");
        ScrubbedRecorder x = new ScrubbedRecorder();
        due.is("none", x.told(3), 0);
        x.latch(4);
        due.is("off", x.told(3), 8);
        x.tick(10);
        due.is("off still", x.told(3), 8);
        x.power(4);
        for (int row = 0; row < 8; row++) {
            due.is("blank", x.told(3), 8 - row);
            x.tick(10);
        }
        due.is("none", x.told(3), 0);
    }

    private static void wordsWithFlippedBits() {
        due.says("4: how many words have flipped bits.");
        ScrubbedRecorder x = new ScrubbedRecorder();
        due.is("none", x.told(4), 0);
        x.flip(0, 0, 38);
        due.is("the first word", x.told(4), 1);
        x.flip(5, 127, 0);
        due.is("the last word", x.told(4), 2);
        x.flip(5, 127, 31);
        due.is("a word with two counts once", x.told(4), 2);
        x.flip(5, 127, 0);
        due.is("a word with one of them left", x.told(4), 2);
        x.flip(5, 127, 31);
        due.is("a word without any", x.told(4), 1);
        x.latch(0);
        due.is("a missing word has none", x.told(4), 0);
    }

    private static void noSuchWhat() {
        due.says("BAD when what is not 0 .. 4.");
        ScrubbedRecorder x = new ScrubbedRecorder();
        int[] wrong = {-1, 5, 6, Integer.MIN_VALUE, Integer.MAX_VALUE};
        for (int what : wrong) {
            due.is("what " + what, x.told(what), ScrubbedRecorder.BAD);
        }
        for (int what = 0; what < 5; what++) {
            due.yes("what " + what, x.told(what) >= 0);
        }
    }
}

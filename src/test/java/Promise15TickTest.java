/** Promise 15: tick. */
public final class Promise15TickTest {
    private static final Due due = new Due("promise 15");

    public static void main(String[] args) {
        wrongInputs();
        wordsInTheirOrder();
        correctsAndMends();
        missingWordsCount();
        rebuildsOneRow();
        due.end();
    }

    private static void wrongInputs() {
        ScrubbedRecorder x = new ScrubbedRecorder();
        x.latch(0);
        x.power(0);
        x.flip(1, 0, 0);
        due.is("words -1", x.tick(-1), ScrubbedRecorder.BAD);
        due.is("words 1001", x.tick(1001), ScrubbedRecorder.BAD);
        due.is("least int", x.tick(Integer.MIN_VALUE), ScrubbedRecorder.BAD);
        due.is("nothing is rebuilt", x.told(3), 8);
        due.is("nothing is scrubbed", x.told(4), 1);
        due.is("words 0", x.tick(0), 0);
        due.is("a row is rebuilt", x.told(3), 7);
        due.is("nothing is scrubbed", x.told(4), 1);
        due.is("words 1000", x.tick(1000), 1);
        due.is("another row is rebuilt", x.told(3), 6);
    }

    private static void wordsInTheirOrder() {
        ScrubbedRecorder x = new ScrubbedRecorder();
        x.flip(0, 127, 0);
        x.flip(1, 0, 0);
        x.flip(5, 127, 0);
        due.is("0 .. 126 of module 0", x.tick(127), 0);
        due.is("word 127", x.tick(1), 1);
        due.is("word 0 of module 1", x.tick(1), 1);
        due.is("up to word 126 of module 5", x.tick(638), 0);
        x.flip(0, 0, 0);
        due.is("the last word", x.tick(1), 1);
        due.is("from the beginning again", x.tick(1), 1);
        x.flip(0, 0, 0);
        x.flip(0, 1, 0);
        due.is("all but the one behind", x.tick(767), 1);
        due.is("all but the one behind: the one", x.tick(1), 1);
        x.flip(0, 1, 0);
        due.is("1000 words are more than all", x.tick(1000), 1);
        x.flip(1, 105, 0);
        due.is("it stands behind word 104 of module 1", x.tick(1), 1);
    }

    private static void correctsAndMends() {
        ScrubbedRecorder x = new ScrubbedRecorder();
        x.flip(0, 0, 0);
        x.flip(0, 1, 1);
        x.flip(0, 1, 2);
        x.flip(1, 1, 2);
        x.flip(0, 2, 3);
        x.flip(0, 2, 3);
        due.is("three words have flipped bits", x.told(4), 3);
        due.is("two in the first three", x.tick(3), 2);
        due.is("corrected", x.told(0), 1);
        due.is("mended", x.told(1), 1);
        due.is("the word in module 1 has its own still", x.told(4), 1);
        due.is("a round", x.tick(768), 1);
        due.is("corrected", x.told(0), 2);
        due.is("mended", x.told(1), 1);
        due.is("none is left", x.told(4), 0);
        due.is("a round without any", x.tick(768), 0);
    }

    private static void missingWordsCount() {
        ScrubbedRecorder x = new ScrubbedRecorder();
        x.flip(0, 0, 0);
        x.latch(0);
        x.flip(1, 0, 0);
        due.is("the 128 missing ones", x.tick(128), 0);
        due.is("the first behind", x.tick(1), 1);
        due.is("corrected", x.told(0), 1);
    }

    private static void rebuildsOneRow() {
        ScrubbedRecorder x = new ScrubbedRecorder();
        x.latch(4);
        due.is("a tick", x.tick(0), 0);
        due.is("a module that is off is not rebuilt", x.told(3), 8);
        x.power(4);
        for (int row = 0; row < 8; row++) {
            due.no("its row is blank", x.flip(4, 16 * row, 0));
            due.is("a tick", x.tick(0), 0);
            due.is("rows left", x.told(3), 7 - row);
            due.yes("its row is there", x.flip(4, 16 * row + 15, 0));
            if (row < 7) {
                due.no("the next is not", x.flip(4, 16 * row + 16, 0));
            }
        }
        due.is("a tick more", x.tick(0), 0);
        due.is("nothing to rebuild", x.told(3), 0);
        due.is("rebuilding leaves flipped bits alone", x.told(4), 8);
    }
}

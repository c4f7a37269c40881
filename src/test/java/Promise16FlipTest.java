/** Promise 16: flip. */
public final class Promise16FlipTest {
    private static final Due due = new Due("promise 16");

    public static void main(String[] args) {
        wrongInputs();
        thereAndBack();
        twoAtMost();
        missingWords();
        everyBit();
        due.end();
    }

    private static void wrongInputs() {
        ScrubbedRecorder x = new ScrubbedRecorder();
        due.no("module -1", x.flip(-1, 0, 0));
        due.no("module 6", x.flip(6, 0, 0));
        due.no("word -1", x.flip(1, -1, 0));
        due.no("word 128", x.flip(0, 128, 0));
        due.no("bit -1", x.flip(0, 0, -1));
        due.no("bit 39", x.flip(0, 0, 39));
        due.no("least int", x.flip(Integer.MIN_VALUE, Integer.MIN_VALUE, Integer.MIN_VALUE));
        due.no("greatest int", x.flip(Integer.MAX_VALUE, 0, 0));
        due.is("nothing flipped", x.told(4), 0);
        due.yes("the very first", x.flip(0, 0, 0));
        due.yes("the very last", x.flip(5, 127, 38));
        due.is("two words", x.told(4), 2);
    }

    private static void thereAndBack() {
        ScrubbedRecorder x = new ScrubbedRecorder();
        due.yes("there", x.flip(3, 77, 32));
        due.is("flipped", x.told(4), 1);
        due.yes("back", x.flip(3, 77, 32));
        due.is("not flipped", x.told(4), 0);
        x.flip(3, 77, 0);
        x.flip(3, 77, 32);
        due.no("bits 0 and 32 are two, a third is refused", x.flip(3, 77, 1));
        due.yes("back from two", x.flip(3, 77, 0));
        due.yes("another instead", x.flip(3, 77, 1));
        due.no("and no third", x.flip(3, 77, 2));
    }

    private static void twoAtMost() {
        ScrubbedRecorder x = new ScrubbedRecorder();
        x.flip(0, 9, 0);
        x.flip(0, 9, 1);
        for (int module = 1; module < 6; module++) {
            due.yes("one flipped bit", x.flip(module, 9, 5));
            due.no("a second in another module", x.flip(module, 9, 6));
            due.yes("two in another word", x.flip(module, 10 + module, 5));
            due.yes("two in another word", x.flip(module, 10 + module, 6));
        }
        due.yes("back from two to one", x.flip(0, 9, 1));
        due.yes("then another may have two", x.flip(5, 9, 6));
        due.no("and not this one", x.flip(0, 9, 1));
    }

    private static void missingWords() {
        ScrubbedRecorder x = new ScrubbedRecorder();
        x.flip(1, 20, 0);
        x.latch(2);
        due.no("missing: off", x.flip(2, 20, 0));
        due.yes("from one to none beside a missing one", x.flip(1, 20, 0));
        due.yes("one beside a missing one", x.flip(1, 20, 0));
        due.no("two beside a missing one", x.flip(1, 20, 1));
        x.power(2);
        due.no("missing: blank", x.flip(2, 0, 0));
        due.no("two beside a blank one", x.flip(1, 20, 1));
        x.tick(0);
        due.yes("rebuilt", x.flip(2, 15, 0));
        due.yes("two beside a rebuilt one", x.flip(2, 15, 1));
        due.no("its next row is still blank", x.flip(2, 16, 0));
        due.no("two beside that", x.flip(1, 20, 1));
        x.tick(0);
        due.yes("two beside it, rebuilt", x.flip(1, 20, 1));
    }

    private static void everyBit() {
        ScrubbedRecorder x = new ScrubbedRecorder();
        for (int bit = 0; bit < 39; bit++) {
            due.yes("bit " + bit, x.flip(0, 50, bit));
            due.is("flipped", x.told(4), 1);
            due.yes("bit " + bit + " back", x.flip(0, 50, bit));
            due.is("not flipped", x.told(4), 0);
        }
    }
}

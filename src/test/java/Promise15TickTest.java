/** Promise 15: tick. */
public final class Promise15TickTest {
    private static final Due due = new Due("promise 15");

    public static void main(String[] args) {
        rebuildsOneRow();
        rebuildsNoneOfAModuleThatIsOff();
        rebuildsBeforeItScrubs();
        behindTheOneScrubbedLast();
        fromModuleToModule();
        fromTheBeginningAgain();
        aThousandWords();
        missingWordsCount();
        blankWordsCount();
        corrects();
        mends();
        answersHowMany();
        badWords();
        noWords();
        due.end();
    }

    private static void rebuildsOneRow() {
        due.says("Makes a tick: if a module is on and blank in some rows, the first of these is rebuilt");
        ScrubbedRecorder x = new ScrubbedRecorder();
        x.latch(4);
        x.power(4);
        for (int row = 0; row < 8; row++) {
            due.no("its row is blank", x.flip(4, 16 * row, 0));
            due.is("a tick", x.tick(0), 0);
            due.is("rows left", x.told(3), 7 - row);
            due.yes("its row is there", x.flip(4, 16 * row + 15, 0));
        }
        due.is("a tick more", x.tick(0), 0);
        due.is("nothing is left to rebuild", x.told(3), 0);
        due.is("rebuilding leaves flipped bits alone", x.told(4), 8);
    }

    private static void rebuildsNoneOfAModuleThatIsOff() {
        due.says("Makes a tick: if a module is on and blank in some rows, the first of these is rebuilt");
        ScrubbedRecorder x = new ScrubbedRecorder();
        x.latch(4);
        x.tick(0);
        x.tick(10);
        due.is("rows", x.told(3), 8);
        x.power(4);
        due.is("rows", x.told(3), 8);
        x.tick(10);
        due.is("rows", x.told(3), 7);
    }

    /** Words that are there again have no flipped bits: scrubbing finds nothing in the rebuilt row. */
    private static void rebuildsBeforeItScrubs() {
        due.says("the first of these is rebuilt; then so many words are scrubbed");
        ScrubbedRecorder x = new ScrubbedRecorder();
        Rig.flipTwo(x, 0, 0);
        x.latch(0);
        x.power(0);
        due.is("words of the rebuilt row are sound", x.tick(16), 0);
        due.is("corrected", x.told(0), 0);
        due.is("mended", x.told(1), 0);
        due.is("rows", x.told(3), 7);
    }

    private static void behindTheOneScrubbedLast() {
        due.says("beginning behind the one that was scrubbed last");
        ScrubbedRecorder x = new ScrubbedRecorder();
        for (int word = 0; word < 6; word++) {
            x.flip(0, word, 0);
        }
        due.is("words 0 and 1", x.tick(2), 2);
        due.is("no word", x.tick(0), 0);
        due.is("word 2", x.tick(1), 1);
        x.flip(0, 0, 0);
        x.flip(0, 2, 0);
        due.is("refused, it stays where it is", x.tick(-1), ScrubbedRecorder.BAD);
        due.is("words 3 to 7", x.tick(5), 3);
        due.is("words 0 and 2 are left", x.told(4), 2);
    }

    private static void fromModuleToModule() {
        due.says("module 0 from word 0 to 127, module 1, ..");
        ScrubbedRecorder x = new ScrubbedRecorder();
        for (int module = 0; module < 6; module++) {
            x.flip(module, 0, 0);
            x.flip(module, 127, 0);
        }
        for (int module = 0; module < 6; module++) {
            due.is("word 0", x.tick(1), 1);
            due.is("words 1 to 126", x.tick(126), 0);
            due.is("word 127", x.tick(1), 1);
        }
    }

    private static void fromTheBeginningAgain() {
        due.says("and behind the last word of module 5 from the beginning again.");
        ScrubbedRecorder x = new ScrubbedRecorder();
        due.is("all but the last word", x.tick(767), 0);
        x.flip(0, 0, 0);
        x.flip(0, 1, 0);
        x.flip(5, 127, 0);
        due.is("the last word", x.tick(1), 1);
        due.is("the first word", x.tick(1), 1);
        due.is("the second word", x.tick(1), 1);

        ScrubbedRecorder y = new ScrubbedRecorder();
        y.tick(767);
        y.flip(0, 0, 0);
        y.flip(5, 127, 0);
        due.is("the last and the first in one tick", y.tick(2), 2);
    }

    private static void aThousandWords() {
        due.says("and behind the last word of module 5 from the beginning again.");
        ScrubbedRecorder x = new ScrubbedRecorder();
        x.flip(0, 0, 0);
        x.flip(5, 127, 0);
        due.is("more than all words", x.tick(1000), 2);
        x.flip(1, 104, 0);
        due.is("it stands behind word 103 of module 1", x.tick(1), 1);
    }

    private static void missingWordsCount() {
        due.says("(A missing word counts among them, nothing is done with it.)");
        ScrubbedRecorder x = new ScrubbedRecorder();
        x.flip(0, 0, 0);
        x.latch(0);
        x.flip(1, 0, 0);
        due.is("the 128 missing ones", x.tick(128), 0);
        due.is("the first behind", x.tick(1), 1);
        due.is("corrected", x.told(0), 1);
        due.is("mended", x.told(1), 0);
        due.is("still missing", x.told(3), 8);
    }

    private static void blankWordsCount() {
        due.says("(A missing word counts among them, nothing is done with it.)");
        ScrubbedRecorder x = new ScrubbedRecorder();
        x.latch(0);
        x.power(0);
        x.tick(0);
        x.flip(0, 15, 0);
        due.is("row 0", x.tick(16), 1);
        due.is("the other rows", x.tick(112), 0);
        x.flip(1, 0, 0);
        due.is("the next module", x.tick(1), 1);
        due.is("each of the four ticks rebuilt a row, scrubbing none", x.told(3), 4);
    }

    private static void corrects() {
        due.says("Scrubbing a word that is not missing and has one flipped bit CORRECTS it");
        ScrubbedRecorder x = new ScrubbedRecorder();
        x.flip(0, 0, 0);
        x.flip(0, 1, 38);
        x.flip(1, 0, 5);
        due.is("two words", x.tick(2), 2);
        due.is("corrected", x.told(0), 2);
        due.is("mended", x.told(1), 0);
        due.is("the word beside them is as it was", x.told(4), 1);
        due.yes("a bit that was flipped is not any more", x.flip(0, 0, 0));
        due.is("so that it flips", x.told(4), 2);
    }

    private static void mends() {
        due.says("with two flipped bits MENDS it: it has none then.");
        ScrubbedRecorder x = new ScrubbedRecorder();
        Rig.flipTwo(x, 0, 0);
        x.flip(1, 0, 5);
        due.is("a word", x.tick(1), 1);
        due.is("corrected", x.told(0), 0);
        due.is("mended", x.told(1), 1);
        due.is("the word beside it is as it was", x.told(4), 1);
        due.is("a round behind it", x.tick(767), 1);
        due.is("none is left", x.tick(768), 0);
        due.is("mended in all", x.told(1), 1);
    }

    private static void answersHowMany() {
        due.says("Answers how many were corrected or mended.");
        ScrubbedRecorder x = new ScrubbedRecorder();
        x.flip(0, 0, 0);
        Rig.flipTwo(x, 0, 1);
        x.flip(0, 2, 3);
        x.flip(0, 2, 3);
        x.flip(0, 5, 3);
        due.is("one of each, and a sound word", x.tick(3), 2);
        due.is("none", x.tick(2), 0);
        due.is("one more", x.tick(768), 1);
        due.is("a round without any", x.tick(768), 0);
    }

    private static void badWords() {
        due.says("BAD when words is not 0 .. 1000 (then nothing is rebuilt, either; with 0 a row is).");
        ScrubbedRecorder x = new ScrubbedRecorder();
        x.latch(0);
        x.power(0);
        x.flip(1, 0, 0);
        int[] wrong = {-1, 1001, Integer.MIN_VALUE, Integer.MAX_VALUE};
        for (int words : wrong) {
            due.is("words " + words, x.tick(words), ScrubbedRecorder.BAD);
        }
        due.is("nothing is rebuilt", x.told(3), 8);
        due.is("nothing is scrubbed", x.told(4), 1);
        due.is("words 1000", x.tick(1000), 1);
        due.is("a row is rebuilt", x.told(3), 7);
    }

    private static void noWords() {
        due.says("(then nothing is rebuilt, either; with 0 a row is)");
        ScrubbedRecorder x = new ScrubbedRecorder();
        x.latch(5);
        x.power(5);
        x.flip(0, 0, 0);
        due.is("words 0", x.tick(0), 0);
        due.is("a row is rebuilt", x.told(3), 7);
        due.is("nothing is scrubbed", x.told(4), 1);
        due.is("word 0 is still the next", x.tick(1), 1);
    }
}

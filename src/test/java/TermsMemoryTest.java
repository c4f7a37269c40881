/** The document's terms, the paragraph on the memory. */
public final class TermsMemoryTest {
    private static final Due due = new Due("terms, memory");

    public static void main(String[] args) {
        everyBitIsThere();
        noOtherBitIsThere();
        rowsBeginAndEnd();
        pagesAndParity();
        fortyPages();
        sixteenWords();
        allAreOnAtFirst();
        blankUntilRebuilt();
        missingWords();
        noFlippedBitsAtFirst();
        missingWordsHaveNoFlippedBits();
        writingMakesSound();
        writingMakesTwoFlippedBitsSound();
        writingLeavesTwoFlippedBitsElsewhere();
        writingBesideMissingWords();
        due.end();
    }

    private static void everyBitIsThere() {
        due.says("The MODULES 0 .. 5 have WORDS 0 .. 127 each, and a word has BITS 0 .. 38.");
        for (int n = 0; n < 6 * 128; n++) {
            ScrubbedRecorder x = new ScrubbedRecorder();
            for (int bit = 0; bit < 39; bit++) {
                due.yes("flip", x.flip(n / 128, n % 128, bit));
                due.is("flipped words", x.told(4), 1);
                due.yes("flip back", x.flip(n / 128, n % 128, bit));
            }
            due.is("flipped words", x.told(4), 0);
        }
    }

    /** The strange ones are those that wrap around to a word or bit that is there. */
    private static void noOtherBitIsThere() {
        due.says("The MODULES 0 .. 5 have WORDS 0 .. 127 each, and a word has BITS 0 .. 38.");
        ScrubbedRecorder x = new ScrubbedRecorder();
        int[] modules = {-1, 6, 256, Integer.MIN_VALUE, Integer.MAX_VALUE, 1 << 25};
        int[] words = {-1, -128, 128, 129, 768, Integer.MIN_VALUE, Integer.MAX_VALUE};
        int[] bits = {-1, -64, -26, 39, 63, 64, 102, Integer.MIN_VALUE, Integer.MAX_VALUE};
        for (int module : modules) {
            due.no("module " + module, x.flip(module, 0, 0));
        }
        for (int word : words) {
            due.no("word " + word + " of module 0", x.flip(0, word, 0));
            due.no("word " + word + " of module 3", x.flip(3, word, 0));
            due.no("word " + word + " of module 5", x.flip(5, word, 0));
        }
        for (int bit : bits) {
            due.no("bit " + bit, x.flip(2, 2, bit));
        }
        due.is("flipped words", x.told(4), 0);
    }

    private static void rowsBeginAndEnd() {
        due.says("The words 16 * r to 16 * r + 15 of all modules are the ROW r, 0 .. 7.");
        for (int n = 0; n < 6 * 9; n++) {
            int module = n / 9;
            int rebuilt = n % 9;
            ScrubbedRecorder x = new ScrubbedRecorder();
            x.latch(module);
            x.power(module);
            Rig.rebuild(x, rebuilt);
            for (int row = 0; row < 8; row++) {
                due.is("first word of row " + row, x.flip(module, 16 * row, 0) ? 1 : 0, row < rebuilt ? 1 : 0);
                due.is("last word of row " + row, x.flip(module, 16 * row + 15, 0) ? 1 : 0, row < rebuilt ? 1 : 0);
            }
        }
    }

    /** Opening a page makes its words and those of its parity sound, and so shows where they lie. */
    private static void pagesAndParity() {
        due.says("In row r module r % 6 has the PARITY; the others, by ascending numbers, have the PAGES 5 * r to 5 * r + 4.");
        int[] parities = {0, 1, 2, 3, 4, 5, 0, 1};
        for (int page = 0; page < 40; page++) {
            int row = page / 5;
            ScrubbedRecorder x = Rig.withPackets(false, 40, page, Rig.PAGE);
            for (int module = 0; module < 6; module++) {
                x.flip(module, 16 * row + 15, 0);
                x.flip(module, 16 * ((row + 1) % 8), 0);
            }
            x.record(0, 1, 99, 0);
            int[] flipped = Rig.flippedByModule(x);
            for (int module = 0; module < 6; module++) {
                boolean sound = module == parities[row] || module == Rig.MODULES_OF_PAGES[row][page % 5];
                due.is("page " + page + ", flipped in module " + module, flipped[module], sound ? 1 : 2);
            }
        }
    }

    private static void fortyPages() {
        due.says("So there are 40 pages of 16 words, numbered 0 .. 15 in the page.");
        ScrubbedRecorder x = Rig.withPackets(false, 40, 39, Rig.PAGE);
        due.is("free pages", x.told(2), 1);
        due.is("the last", x.record(0, 1, 99, Rig.PAGE), 39);
        due.is("free pages", x.told(2), 0);
        due.is("no page more", x.record(0, 1, 99, 0), ScrubbedRecorder.FULL);
    }

    private static void sixteenWords() {
        due.says("So there are 40 pages of 16 words, numbered 0 .. 15 in the page.");
        ScrubbedRecorder x = Rig.withPackets(false, 40, 5, Rig.PAGE);
        for (int word = 15; word < 33; word++) {
            x.flip(0, word, 0);
        }
        x.record(0, 1, 99, 0);
        due.is("words 16 .. 31 of module 0 are page 5", x.told(4), 2);
        due.is("up to word 15", x.tick(16), 1);
        due.is("words 16 .. 31", x.tick(16), 0);
        due.is("word 32", x.tick(1), 1);
    }

    private static void allAreOnAtFirst() {
        due.says("A module is ON (at first all are) or OFF");
        ScrubbedRecorder x = new ScrubbedRecorder();
        for (int module = 0; module < 6; module++) {
            due.no("off", x.power(module));
            due.yes("there", x.flip(module, 0, 0));
        }
        due.is("rows in which a module is off or blank", x.told(3), 0);
    }

    private static void blankUntilRebuilt() {
        due.says("one that was off and is on again is BLANK in all rows that have not been REBUILT since.");
        for (int module = 0; module < 6; module++) {
            ScrubbedRecorder x = new ScrubbedRecorder();
            for (int round = 0; round < 2; round++) {
                x.latch(module);
                Rig.rebuild(x, 3);
                x.power(module);
                due.is("all rows, also those that were rebuilt before", x.told(3), 8);
                due.no("the first word", x.flip(module, 0, 0));
                Rig.rebuild(x, 7);
                due.is("the last row", x.told(3), 1);
                due.no("the last row's first word", x.flip(module, 112, 0));
                due.yes("the one before it", x.flip(module, 111, 0));
                Rig.rebuild(x, 1);
                due.is("none", x.told(3), 0);
                due.yes("the last word", x.flip(module, 127, 0));
            }
        }
    }

    private static void missingWords() {
        due.says("A word is MISSING when its module is off, or blank in its row.");
        ScrubbedRecorder x = new ScrubbedRecorder();
        x.latch(2);
        due.no("off, the first word", x.flip(2, 0, 0));
        due.no("off, the last word", x.flip(2, 127, 0));
        due.yes("the module before", x.flip(1, 127, 0));
        due.yes("the module behind", x.flip(3, 0, 0));
        x.power(2);
        due.no("blank, the first word", x.flip(2, 0, 0));
        due.no("blank, the last word", x.flip(2, 127, 0));
        x.tick(0);
        due.yes("rebuilt", x.flip(2, 15, 0));
        due.no("blank in its row", x.flip(2, 16, 0));
    }

    private static void noFlippedBitsAtFirst() {
        due.says("A word that is not missing may have FLIPPED bits (at first none has;");
        ScrubbedRecorder x = new ScrubbedRecorder();
        due.is("flipped words", x.told(4), 0);
        due.is("a round of scrubbing", x.tick(768), 0);
    }

    private static void missingWordsHaveNoFlippedBits() {
        due.says("one that becomes missing has none, nor when it is there again)");
        ScrubbedRecorder x = new ScrubbedRecorder();
        for (int word = 0; word < 128; word++) {
            x.flip(2, word, 0);
        }
        Rig.flipTwo(x, 2, 127);
        x.flip(1, 127, 0);
        x.flip(3, 0, 0);
        due.yes("latch", x.latch(2));
        due.is("the words that are missing", x.told(4), 2);
        x.power(2);
        Rig.rebuild(x, 8);
        due.is("there again", x.told(4), 2);
        due.yes("a bit that was flipped is not now", x.flip(2, 0, 0));
        due.is("so that it flips", x.told(4), 3);
        due.is("a round of scrubbing", x.tick(768), 3);
    }

    /** Words 5 and 6 of page 0, in module 1, are the next ones; the parity lies in module 0. */
    private static void writingMakesSound() {
        due.says("When a word of a page is WRITTEN, neither it nor the word of the parity with the same number in its module has flipped bits any more.");
        ScrubbedRecorder x = Rig.withPackets(true, 3, 1, 0);
        for (int module = 0; module < 6; module++) {
            for (int word = 4; word < 8; word++) {
                x.flip(module, word, 38);
            }
        }
        x.record(0, 1, 1, 0);
        int[] want = {2, 2, 4, 4, 4, 4};
        int[] flipped = Rig.flippedByModule(x);
        for (int module = 0; module < 6; module++) {
            due.is("flipped in module " + module, flipped[module], want[module]);
        }
    }

    private static void writingMakesTwoFlippedBitsSound() {
        due.says("When a word of a page is WRITTEN, neither it nor the word of the parity with the same number in its module has flipped bits any more.");
        ScrubbedRecorder x = Rig.withPackets(true, 3, 1, 0);
        Rig.flipTwo(x, 1, 5);
        Rig.flipTwo(x, 0, 6);
        Rig.flipTwo(x, 1, 4);
        x.record(0, 1, 1, 0);
        due.is("flipped words", x.told(4), 1);
        due.is("a round of scrubbing", x.tick(768), 1);
        due.is("mended", x.told(1), 1);
    }

    /** Page 1 is in module 2, in the same row as page 0. */
    private static void writingLeavesTwoFlippedBitsElsewhere() {
        due.says("When a word of a page is WRITTEN, neither it nor the word of the parity with the same number in its module has flipped bits any more.");
        ScrubbedRecorder x = Rig.withPackets(true, 3, 1, 0);
        Rig.flipTwo(x, 2, 5);
        x.flip(0, 5, 0);
        x.flip(1, 5, 0);
        x.record(0, 1, 1, 0);
        due.is("flipped words", x.told(4), 1);
        due.no("it has two still", x.flip(2, 5, 2));
        due.is("a round of scrubbing", x.tick(768), 1);
        due.is("mended", x.told(1), 1);
    }

    private static void writingBesideMissingWords() {
        due.says("When a word of a page is WRITTEN, neither it nor the word of the parity with the same number in its module has flipped bits any more.");
        ScrubbedRecorder x = Rig.withPackets(true, 3, 1, 0);
        x.latch(1);
        x.flip(0, 5, 0);
        x.record(0, 1, 1, 0);
        due.is("the page is missing, not its parity", x.told(4), 0);
        due.no("the page is missing still", x.flip(1, 5, 0));

        ScrubbedRecorder y = Rig.withPackets(true, 3, 1, 0);
        y.latch(0);
        y.flip(1, 5, 0);
        y.record(0, 1, 1, 0);
        due.is("the parity is missing, not the page", y.told(4), 0);
        due.no("the parity is missing still", y.flip(0, 5, 0));
    }
}

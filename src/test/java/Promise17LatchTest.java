/** Promise 17: latch. */
public final class Promise17LatchTest {
    private static final Due due = new Due("promise 17");

    public static void main(String[] args) {
        aModuleIsOff();
        itsFlippedBitsAreGone();
        noSuchModule();
        oneIsOff();
        oneIsBlankInSomeRow();
        twoFlippedBitsElsewhere();
        twoFlippedBitsOfItsOwn();
        oneFlippedBitElsewhere();
        due.end();
    }

    private static void aModuleIsOff() {
        due.says("A module is off.");
        for (int module = 0; module < 6; module++) {
            ScrubbedRecorder x = new ScrubbedRecorder();
            due.yes("latch", x.latch(module));
            due.is("rows", x.told(3), 8);
            for (int other = 0; other < 6; other++) {
                due.is("a word of module " + other, x.flip(other, 7, 7) ? 1 : 0, other == module ? 0 : 1);
            }
            due.yes("it was off", x.power(module));
        }
    }

    private static void itsFlippedBitsAreGone() {
        due.says("A module is off.");
        ScrubbedRecorder x = new ScrubbedRecorder();
        x.flip(2, 0, 0);
        x.flip(2, 127, 0);
        Rig.flipTwo(x, 2, 64);
        x.flip(1, 127, 0);
        x.flip(3, 0, 0);
        due.yes("latch", x.latch(2));
        due.is("those of the modules beside it are left", x.told(4), 2);
        x.power(2);
        Rig.rebuild(x, 8);
        due.is("they do not come back", x.told(4), 2);
    }

    private static void noSuchModule() {
        due.says("Answers true; refused with false when there is no such module, one is off or blank in some row, or a word of another module has two flipped bits.");
        ScrubbedRecorder x = new ScrubbedRecorder();
        int[] wrong = {-1, 6, Integer.MIN_VALUE, Integer.MAX_VALUE};
        for (int module : wrong) {
            due.no("module " + module, x.latch(module));
        }
        due.is("all are on", x.told(3), 0);
        due.yes("module 5", x.latch(5));
    }

    private static void oneIsOff() {
        due.says("Answers true; refused with false when there is no such module, one is off or blank in some row, or a word of another module has two flipped bits.");
        ScrubbedRecorder x = new ScrubbedRecorder();
        due.yes("latch", x.latch(0));
        for (int module = 0; module < 6; module++) {
            due.no("one is off: " + module, x.latch(module));
        }
        due.no("the others are on", x.power(1));
        due.yes("the first is off", x.power(0));
    }

    private static void oneIsBlankInSomeRow() {
        due.says("Answers true; refused with false when there is no such module, one is off or blank in some row, or a word of another module has two flipped bits.");
        ScrubbedRecorder x = new ScrubbedRecorder();
        x.latch(3);
        x.power(3);
        for (int row = 0; row < 8; row++) {
            due.no("itself", x.latch(3));
            due.no("another", x.latch(1));
            x.tick(0);
        }
        due.yes("all rows are rebuilt", x.latch(1));
        due.no("the first is on", x.power(3));
        due.yes("the second is off", x.power(1));
        Rig.rebuild(x, 8);
        due.yes("the first again", x.latch(3));
    }

    private static void twoFlippedBitsElsewhere() {
        due.says("Answers true; refused with false when there is no such module, one is off or blank in some row, or a word of another module has two flipped bits.");
        int[] words = {0, 63, 127};
        for (int n = 0; n < 6 * words.length; n++) {
            ScrubbedRecorder x = new ScrubbedRecorder();
            int flipped = n / words.length;
            Rig.flipTwo(x, flipped, words[n % words.length]);
            for (int module = 0; module < 6; module++) {
                if (module != flipped) {
                    due.no("latch of " + module, x.latch(module));
                }
            }
            due.is("all are on", x.told(3), 0);
            x.tick(768);
            due.yes("mended", x.latch((flipped + 1) % 6));
        }
    }

    private static void twoFlippedBitsOfItsOwn() {
        due.says("or a word of another module has two flipped bits.");
        for (int module = 0; module < 6; module++) {
            ScrubbedRecorder x = new ScrubbedRecorder();
            Rig.flipTwo(x, module, 0);
            Rig.flipTwo(x, module, 127);
            due.yes("latch of " + module, x.latch(module));
        }
        ScrubbedRecorder x = new ScrubbedRecorder();
        Rig.flipTwo(x, 0, 0);
        Rig.flipTwo(x, 5, 127);
        due.no("its own, and another's", x.latch(0));
        due.no("its own, and another's", x.latch(5));
    }

    private static void oneFlippedBitElsewhere() {
        due.says("or a word of another module has two flipped bits.");
        ScrubbedRecorder x = new ScrubbedRecorder();
        for (int word = 0; word < 60; word++) {
            x.flip(0, word, 0);
            x.flip(5, word, 0);
        }
        due.yes("latch", x.latch(1));
        due.is("they are left", x.told(4), 120);
    }
}

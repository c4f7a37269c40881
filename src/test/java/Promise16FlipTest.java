/** Promise 16: flip. */
public final class Promise16FlipTest {
    private static final Due due = new Due("promise 16");

    public static void main(String[] args) {
        thereAndBack();
        onlyThatBit();
        noSuchBit();
        missingWords();
        threeFlippedBits();
        twoBesideAMissingWord();
        twoBesideABlankWord();
        twoBesideTwo();
        oneBesideAnything();
        backBesideAnything();
        due.end();
    }

    private static void thereAndBack() {
        due.says("A bit of a word flips: it is flipped if it was not, and otherwise not any more.");
        ScrubbedRecorder x = new ScrubbedRecorder();
        due.says("Answers true. Refused with false: when there is no such module, word or bit");
        due.yes("there", x.flip(3, 77, 32));
        due.is("flipped", x.told(4), 1);
        due.yes("back", x.flip(3, 77, 32));
        due.is("not flipped", x.told(4), 0);
        due.says("A bit of a word flips: it is flipped if it was not, and otherwise not any more.");
        x.flip(3, 77, 0);
        x.flip(3, 77, 38);
        due.is("two bits of a word", x.told(4), 1);
        due.yes("one back", x.flip(3, 77, 0));
        due.is("the other is left", x.told(4), 1);
        due.is("a round", x.tick(768), 1);
        due.is("it was one bit", x.told(0), 1);
    }

    private static void onlyThatBit() {
        due.says("A bit of a word flips: it is flipped if it was not, and otherwise not any more.");
        for (int bit = 0; bit < 39; bit++) {
            ScrubbedRecorder x = new ScrubbedRecorder();
            x.flip(1, 1, bit);
            x.flip(1, 1, (bit + 7) % 39);
            for (int other = 0; other < 39; other++) {
                boolean flipped = other == bit || other == (bit + 7) % 39;
                due.is("a third bit " + other, x.flip(1, 1, other) ? 1 : 0, flipped ? 1 : 0);
                if (flipped) {
                    x.flip(1, 1, other);
                }
            }
        }
    }

    private static void noSuchBit() {
        due.says("Refused with false: when there is no such module, word or bit");
        ScrubbedRecorder x = new ScrubbedRecorder();
        int[] extremes = {-1, Integer.MIN_VALUE, Integer.MAX_VALUE};
        for (int wrong : extremes) {
            due.no("module " + wrong, x.flip(wrong, 0, 0));
            due.no("word " + wrong, x.flip(1, wrong, 0));
            due.no("bit " + wrong, x.flip(0, 0, wrong));
            due.no("all " + wrong, x.flip(wrong, wrong, wrong));
        }
        due.no("module 6", x.flip(6, 0, 0));
        due.no("word 128", x.flip(0, 128, 0));
        due.no("bit 39", x.flip(0, 0, 39));
        due.is("nothing flipped", x.told(4), 0);
        due.yes("the very first", x.flip(0, 0, 0));
        due.yes("the very last", x.flip(5, 127, 38));
        due.is("two words", x.told(4), 2);
    }

    private static void missingWords() {
        due.says("when the word is missing; and when");
        ScrubbedRecorder x = new ScrubbedRecorder();
        x.latch(2);
        due.no("off, the first word", x.flip(2, 0, 0));
        due.no("off, the last word", x.flip(2, 127, 0));
        x.power(2);
        due.no("blank, the first word", x.flip(2, 0, 0));
        due.no("blank, the last word", x.flip(2, 127, 0));
        Rig.rebuild(x, 7);
        due.yes("rebuilt", x.flip(2, 111, 0));
        due.no("blank still", x.flip(2, 112, 0));
        Rig.rebuild(x, 1);
        due.yes("rebuilt", x.flip(2, 112, 0));
        due.is("flipped words", x.told(4), 2);
    }

    private static void threeFlippedBits() {
        due.says("and when then a word would have more than two flipped bits");
        ScrubbedRecorder x = new ScrubbedRecorder();
        due.yes("one", x.flip(4, 9, 0));
        due.yes("two", x.flip(4, 9, 20));
        due.no("three", x.flip(4, 9, 38));
        due.yes("back to one", x.flip(4, 9, 0));
        due.yes("two", x.flip(4, 9, 38));
        due.no("three", x.flip(4, 9, 0));
        due.is("a round", x.tick(768), 1);
        due.is("mended", x.told(1), 1);
        due.yes("one again", x.flip(4, 9, 0));
    }

    private static void twoBesideAMissingWord() {
        due.says("or one with two would have, among the words with the same number in other modules, a missing one");
        for (int lost = 0; lost < 6; lost++) {
            ScrubbedRecorder x = new ScrubbedRecorder();
            x.latch(lost);
            for (int module = 0; module < 6; module++) {
                if (module != lost) {
                    due.yes("one", x.flip(module, 20, 0));
                    due.no("two", x.flip(module, 20, 1));
                }
            }
            due.is("flipped words", x.told(4), 5);
        }
    }

    private static void twoBesideABlankWord() {
        due.says("or one with two would have, among the words with the same number in other modules, a missing one");
        ScrubbedRecorder x = new ScrubbedRecorder();
        x.latch(2);
        x.power(2);
        x.tick(0);
        x.flip(1, 15, 0);
        x.flip(1, 16, 0);
        due.yes("two beside a rebuilt word", x.flip(1, 15, 1));
        due.no("two beside a blank word", x.flip(1, 16, 1));
        x.tick(0);
        due.yes("two beside it when it is rebuilt", x.flip(1, 16, 1));
        x.flip(2, 31, 0);
        due.yes("two in a rebuilt word", x.flip(2, 31, 1));
    }

    private static void twoBesideTwo() {
        due.says("a missing one or another one with two.");
        for (int first = 0; first < 6; first++) {
            ScrubbedRecorder x = new ScrubbedRecorder();
            Rig.flipTwo(x, first, 9);
            for (int module = 0; module < 6; module++) {
                if (module != first) {
                    due.yes("one", x.flip(module, 9, 5));
                    due.no("two", x.flip(module, 9, 6));
                    due.yes("one in the next word", x.flip(module, 10 + module, 5));
                    due.yes("two in the next word", x.flip(module, 10 + module, 6));
                }
            }
            due.yes("back from two to one", x.flip(first, 9, 1));
            due.yes("then another may have two", x.flip(5 - first, 9, 6));
            due.no("and this one not", x.flip(first, 9, 1));
        }
    }

    private static void oneBesideAnything() {
        due.says("or one with two would have, among the words with the same number in other modules");
        ScrubbedRecorder x = new ScrubbedRecorder();
        Rig.flipTwo(x, 0, 0);
        due.yes("one beside two", x.flip(1, 0, 0));
        x.tick(768);
        x.latch(0);
        due.yes("one beside a missing one", x.flip(1, 0, 0));
        due.yes("one beside a missing one and one", x.flip(2, 0, 0));
    }

    private static void backBesideAnything() {
        due.says("it is flipped if it was not, and otherwise not any more.");
        ScrubbedRecorder x = new ScrubbedRecorder();
        x.flip(1, 0, 0);
        Rig.flipTwo(x, 0, 0);
        due.yes("back from one, beside two", x.flip(1, 0, 0));
        due.yes("back from two", x.flip(0, 0, 1));
        x.latch(3);
        due.yes("back from one, beside a missing one", x.flip(0, 0, 0));
        due.is("none is flipped", x.told(4), 0);
    }
}

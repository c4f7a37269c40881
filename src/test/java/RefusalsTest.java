import java.util.ArrayList;
import java.util.List;

/**
 * The document's terms, the paragraph on refused calls. Each is made on one of two objects with
 * the same past; then both are looked at in all ways, which must answer the same.
 */
public final class RefusalsTest {
    private static final Due due = new Due("refusals");
    private static final int NONE = ScrubbedRecorder.NONE;
    private static final int BAD = ScrubbedRecorder.BAD;
    private static final int TAKEN = ScrubbedRecorder.TAKEN;
    private static final int FULL = ScrubbedRecorder.FULL;

    private interface Past {
        ScrubbedRecorder make();
    }

    private interface Call {
        int answer(ScrubbedRecorder x);
    }

    private interface Look {
        void at(ScrubbedRecorder x, List<Integer> answers);
    }

    private static final Look[] LOOKS = {
        RefusalsTest::lookAtNumbers,
        RefusalsTest::lookAtTheFrame,
        (x, answers) -> lookAtPackets(x, 0, answers),
        (x, answers) -> lookAtPackets(x, 1, answers),
        RefusalsTest::lookAtTheNextFrames,
        RefusalsTest::lookAtPlaybacks,
        RefusalsTest::lookAtWhatIsAskedForAndConfirmed,
        RefusalsTest::lookAtWhatIsSaved,
        RefusalsTest::lookAtTheScrubbing,
        RefusalsTest::lookAtTheBits,
        RefusalsTest::lookAtTheModules,
        RefusalsTest::lookAtTheBuffer,
        RefusalsTest::lookAtTheRoom,
    };

    public static void main(String[] args) {
        theFirstReasonOfMakeStore();
        theFirstReasonOfRecord();
        theFirstReasonOfPlay();
        due.says("A refused call changes nothing.");
        storesStay();
        packetsStay();
        playbacksStay();
        readingChangesNothing();
        flippedBitsStay();
        modulesStay();
        savingStays();
        due.end();
    }

    private static void theFirstReasonOfMakeStore() {
        due.says("Of several reasons to refuse, the one that stands first is answered.");
        ScrubbedRecorder x = Rig.withStore(true, 30);
        due.is("BAD and TAKEN: too few pages", x.makeStore(0, true, 2), BAD);
        due.is("BAD and FULL: too many pages", x.makeStore(1, true, 41), BAD);
        due.is("BAD, TAKEN and FULL", x.makeStore(0, true, 41), BAD);
        due.is("BAD and FULL: no such store", x.makeStore(4, true, 11), BAD);
        due.is("TAKEN and FULL", x.makeStore(0, true, 11), TAKEN);
        due.is("TAKEN alone", x.makeStore(0, true, 10), TAKEN);
        due.is("FULL alone", x.makeStore(1, true, 11), FULL);
    }

    private static void theFirstReasonOfRecord() {
        due.says("Of several reasons to refuse, the one that stands first is answered.");
        ScrubbedRecorder x = Rig.withPackets(false, 3, 3, Rig.PAGE);
        due.is("BAD and FULL: source", x.record(0, 256, 9, 0), BAD);
        due.is("BAD and FULL: source", x.record(0, -1, 9, 0), BAD);
        due.is("BAD and FULL: len", x.record(0, 1, 9, 61), BAD);
        due.is("BAD and FULL: len", x.record(0, 1, 9, -1), BAD);
        due.is("BAD and FULL: time", x.record(0, 1, 1, 0), BAD);
        due.is("FULL alone", x.record(0, 1, 9, 0), FULL);
    }

    private static void theFirstReasonOfPlay() {
        due.says("Of several reasons to refuse, the one that stands first is answered.");
        ScrubbedRecorder x = Rig.withStore(true, 3);
        for (int p = 0; p < 4; p++) {
            x.play(0, 0, 9, 0);
        }
        due.is("BAD and FULL: store", x.play(1, 0, 9, 0), BAD);
        due.is("BAD and FULL: store", x.play(-1, 0, 9, 0), BAD);
        due.is("BAD and FULL: prio", x.play(0, 0, 9, 10), BAD);
        due.is("BAD and FULL: prio", x.play(0, 0, 9, -1), BAD);
        due.is("FULL alone", x.play(0, 0, 9, 0), FULL);
    }

    /**
     * Store 0 is circular and has freed pages, store 1 is bounded and has one page left, store 2 is
     * not made, and three pages are promised to none. Some packets are saved as confirmed, some are
     * only confirmed, some are asked for.
     */
    private static ScrubbedRecorder withStores() {
        ScrubbedRecorder x = new ScrubbedRecorder();
        x.makeStore(0, true, 3);
        x.makeStore(1, false, 4);
        x.makeStore(3, false, 30);
        for (int i = 0; i < 60; i += 8) {
            x.put(i, 0x0102030405060708L * (i + 1));
        }
        for (int n = 0; n < 8; n++) {
            x.record(0, n, n, 18);
            x.record(3, 100 + n, 2 * n, 5 * n);
        }
        for (int n = 0; n < 3; n++) {
            x.record(1, 50 + n, 10 + n, Rig.PAGE);
        }
        x.confirm(0, 5, 5);
        x.confirm(1, 1, 1);
        x.checkpoint(100);
        x.confirm(0, 7, 7);
        x.gap(3, 4);
        x.gap(0, 6);
        x.gap(3, 2);
        return x;
    }

    private static ScrubbedRecorder withTwoPlaybacks() {
        ScrubbedRecorder x = withStores();
        x.play(3, 2, 13, 4);
        x.play(0, 0, 99, 5);
        for (int n = 0; n < 4; n++) {
            x.frame();
        }
        x.tick(37);
        x.flip(0, 40, 3);
        x.flip(2, 127, 38);
        Rig.flipTwo(x, 5, 100);
        return x;
    }

    private static ScrubbedRecorder withAllPlaybacks() {
        ScrubbedRecorder x = withTwoPlaybacks();
        x.play(3, 0, 99, 3);
        x.frame();
        x.play(1, 0, 99, 9);
        return x;
    }

    private static ScrubbedRecorder withNothingToSend() {
        ScrubbedRecorder x = withTwoPlaybacks();
        x.confirm(3, 0, 99);
        x.confirm(0, 0, 99);
        return x;
    }

    private static ScrubbedRecorder withModuleOff() {
        ScrubbedRecorder x = withTwoPlaybacks();
        x.tick(768);
        x.latch(1);
        x.flip(0, 40, 3);
        x.flip(2, 127, 38);
        x.flip(5, 100, 1);
        return x;
    }

    private static ScrubbedRecorder withModuleBlank() {
        ScrubbedRecorder x = withModuleOff();
        x.power(1);
        Rig.rebuild(x, 3);
        x.flip(1, 47, 0);
        return x;
    }

    private static void refused(String name, Past past, int answer, Call call) {
        for (int look = 0; look < LOOKS.length; look++) {
            ScrubbedRecorder x = past.make();
            ScrubbedRecorder y = past.make();
            due.is(name, call.answer(x), answer);
            List<Integer> got = new ArrayList<>();
            List<Integer> want = new ArrayList<>();
            LOOKS[look].at(x, got);
            LOOKS[look].at(y, want);
            for (int n = 0; n < want.size(); n++) {
                due.is(name + ", then look " + look + ", answer " + n, got.get(n), want.get(n));
            }
        }
    }

    private static int number(boolean answer) {
        return answer ? 1 : 0;
    }

    private static void storesStay() {
        Past past = RefusalsTest::withTwoPlaybacks;
        refused("makeStore: no such store", past, BAD, x -> x.makeStore(-1, true, 3));
        refused("makeStore: no such store", past, BAD, x -> x.makeStore(4, true, 3));
        refused("makeStore: too few pages", past, BAD, x -> x.makeStore(2, true, 2));
        refused("makeStore: too many pages", past, BAD, x -> x.makeStore(2, true, 41));
        refused("makeStore: made", past, TAKEN, x -> x.makeStore(0, false, 3));
        refused("makeStore: one page too many", past, FULL, x -> x.makeStore(2, true, 4));
        refused("dropStore: not made", past, 0, x -> number(x.dropStore(2)));
        refused("dropStore: no such store", past, 0, x -> number(x.dropStore(-1)));
        refused("dropStore: no such store", past, 0, x -> number(x.dropStore(4)));
        refused("put: below the buffer", past, 0, x -> number(x.put(-1, -1L)));
        refused("put: beyond the buffer", past, 0, x -> number(x.put(60, -1L)));
    }

    private static void packetsStay() {
        Past past = RefusalsTest::withTwoPlaybacks;
        refused("record: not made", past, BAD, x -> x.record(2, 1, 99, 60));
        refused("record: no such store", past, BAD, x -> x.record(4, 1, 99, 60));
        refused("record: source too small", past, BAD, x -> x.record(0, -1, 99, 60));
        refused("record: source too large", past, BAD, x -> x.record(0, 256, 99, 60));
        refused("record: too few bytes", past, BAD, x -> x.record(0, 1, 99, -1));
        refused("record: too many bytes", past, BAD, x -> x.record(0, 1, 99, 61));
        refused("record: below the clock", past, BAD, x -> x.record(0, 1, 6, 60));
        refused("record: one word too many", past, FULL, x -> x.record(1, 1, 99, 45));
        refused("record: many words too many", past, FULL, x -> x.record(1, 1, 99, 60));
        refused("confirm: not made", past, BAD, x -> x.confirm(2, 0, 99));
        refused("confirm: no such store", past, BAD, x -> x.confirm(-1, 0, 99));
        refused("confirm: from above to", past, BAD, x -> x.confirm(3, 5, 4));
        refused("gap: not made", past, 0, x -> number(x.gap(2, 0)));
        refused("gap: no such store", past, 0, x -> number(x.gap(4, 0)));
        refused("gap: kept no more", past, 0, x -> number(x.gap(0, 0)));
        refused("gap: not recorded yet", past, 0, x -> number(x.gap(0, 8)));
        refused("gap: confirmed", past, 0, x -> number(x.gap(0, 7)));
        refused("gap: asked for already", RefusalsTest::withStores, 0, x -> number(x.gap(3, 4)));
    }

    private static void playbacksStay() {
        Past past = RefusalsTest::withTwoPlaybacks;
        refused("play: not made", past, BAD, x -> x.play(2, 0, 99, 0));
        refused("play: no such store", past, BAD, x -> x.play(4, 0, 99, 0));
        refused("play: priority too small", past, BAD, x -> x.play(1, 0, 99, -1));
        refused("play: priority too large", past, BAD, x -> x.play(1, 0, 99, 10));
        refused("play: all are open", RefusalsTest::withAllPlaybacks, FULL, x -> x.play(1, 0, 99, 0));
        refused("stop: not open", past, 0, x -> number(x.stop(2)));
        refused("stop: no such playback", past, 0, x -> number(x.stop(-1)));
        refused("stop: no such playback", past, 0, x -> number(x.stop(4)));
        refused("frame: nothing to send", RefusalsTest::withNothingToSend, NONE, x -> x.frame());
        refused("frame: none is open", RefusalsTest::withStores, NONE, x -> x.frame());
    }

    private static void readingChangesNothing() {
        Past past = RefusalsTest::withTwoPlaybacks;
        refused("frameByte: no such byte", past, NONE, x -> x.frameByte(71));
        refused("frameByte: no frame", RefusalsTest::withStores, NONE, x -> x.frameByte(0));
        refused("count: not made", past, BAD, x -> x.count(2, 0));
        refused("count: no such what", past, BAD, x -> x.count(0, 6));
        refused("packetByte: kept no more", past, NONE, x -> x.packetByte(0, 0, 0));
        refused("packetByte: no such byte", past, NONE, x -> x.packetByte(0, 7, 24));
        refused("seek: none so late", past, NONE, x -> x.seek(0, 8));
        refused("seek: not made", past, NONE, x -> x.seek(2, 0));
        refused("told: no such what", past, BAD, x -> x.told(5));
    }

    private static void flippedBitsStay() {
        Past past = RefusalsTest::withTwoPlaybacks;
        refused("flip: no such module", past, 0, x -> number(x.flip(-1, 127, 0)));
        refused("flip: no such module", past, 0, x -> number(x.flip(6, 0, 0)));
        refused("flip: no such word", past, 0, x -> number(x.flip(1, -1, 0)));
        refused("flip: no such word", past, 0, x -> number(x.flip(1, 128, 0)));
        refused("flip: no such bit", past, 0, x -> number(x.flip(1, 1, -1)));
        refused("flip: no such bit", past, 0, x -> number(x.flip(1, 1, 39)));
        refused("flip: a third bit", past, 0, x -> number(x.flip(5, 100, 2)));
        refused("flip: two beside two", RefusalsTest::withOneBesideTwo, 0, x -> number(x.flip(2, 100, 9)));
        refused("flip: off", RefusalsTest::withModuleOff, 0, x -> number(x.flip(1, 0, 0)));
        refused("flip: two beside one that is off", RefusalsTest::withModuleOff, 0, x -> number(x.flip(5, 100, 2)));
        refused("flip: blank", RefusalsTest::withModuleBlank, 0, x -> number(x.flip(1, 48, 0)));
        refused("flip: two beside a blank one", RefusalsTest::withModuleBlank, 0, x -> number(x.flip(5, 100, 2)));
    }

    private static ScrubbedRecorder withOneBesideTwo() {
        ScrubbedRecorder x = withTwoPlaybacks();
        x.flip(2, 100, 8);
        return x;
    }

    private static void modulesStay() {
        Past off = RefusalsTest::withModuleOff;
        Past blank = RefusalsTest::withModuleBlank;
        refused("tick: too few words", blank, BAD, x -> x.tick(-1));
        refused("tick: too many words", blank, BAD, x -> x.tick(1001));
        refused("latch: no such module", RefusalsTest::withStores, 0, x -> number(x.latch(-1)));
        refused("latch: no such module", RefusalsTest::withStores, 0, x -> number(x.latch(6)));
        refused("latch: it is off", off, 0, x -> number(x.latch(1)));
        refused("latch: another is off", off, 0, x -> number(x.latch(0)));
        refused("latch: it is blank", blank, 0, x -> number(x.latch(1)));
        refused("latch: another is blank", blank, 0, x -> number(x.latch(5)));
        refused("latch: two flipped bits elsewhere", RefusalsTest::withTwoPlaybacks, 0, x -> number(x.latch(0)));
        refused("power: no such module", off, 0, x -> number(x.power(-1)));
        refused("power: no such module", off, 0, x -> number(x.power(6)));
        refused("power: on", off, 0, x -> number(x.power(0)));
        refused("power: blank", blank, 0, x -> number(x.power(1)));
    }

    private static void savingStays() {
        Past past = RefusalsTest::withTwoPlaybacks;
        refused("checkpoint: less than 0", past, BAD, x -> x.checkpoint(-1));
        refused("checkpoint: broken off by a word", past, 12, x -> x.checkpoint(11));
        refused("checkpoint: broken off at once", past, 12, x -> x.checkpoint(0));
    }

    private static void lookAtNumbers(ScrubbedRecorder x, List<Integer> answers) {
        for (int what = 0; what < 6; what++) {
            answers.add(x.told(what));
            for (int k = 0; k < 4; k++) {
                answers.add(x.count(k, what));
            }
        }
        for (int time = -1; time < 16; time++) {
            for (int k = 0; k < 4; k++) {
                answers.add(x.seek(k, time));
            }
        }
        answers.add(x.checkpoint(0));
    }

    private static void lookAtTheFrame(ScrubbedRecorder x, List<Integer> answers) {
        for (int i = -1; i < 72; i++) {
            answers.add(x.frameByte(i));
        }
    }

    private static void lookAtPackets(ScrubbedRecorder x, int k, List<Integer> answers) {
        for (int position = 0; position < 10; position++) {
            for (int i = 0; i < 32; i++) {
                answers.add(x.packetByte(k, position, i));
            }
        }
    }

    private static void lookAtTheNextFrames(ScrubbedRecorder x, List<Integer> answers) {
        for (int n = 0; n < 40; n++) {
            answers.add(x.frame());
            answers.add(x.frameByte(0));
            answers.add(x.frameByte(4));
            answers.add(x.count(0, 5));
            answers.add(x.count(3, 5));
            if (n % 10 == 9) {
                answers.add(number(x.stop(3 - n / 10)));
            }
        }
    }

    private static void lookAtPlaybacks(ScrubbedRecorder x, List<Integer> answers) {
        answers.add(x.play(1, 0, 99, 5));
        for (int p = 0; p < 4; p++) {
            answers.add(number(x.stop(p)));
        }
        for (int p = 0; p < 5; p++) {
            answers.add(x.play(1, 0, 99, 0));
        }
        answers.add(x.frame());
        answers.add(x.frameByte(4));
    }

    private static void lookAtWhatIsAskedForAndConfirmed(ScrubbedRecorder x, List<Integer> answers) {
        for (int position = 0; position < 10; position++) {
            for (int k = 0; k < 4; k++) {
                answers.add(number(x.gap(k, position)));
                answers.add(x.confirm(k, position, position));
                answers.add(x.count(k, 3));
            }
        }
        answers.add(x.told(2));
        answers.add(x.told(4));
    }

    private static void lookAtWhatIsSaved(ScrubbedRecorder x, List<Integer> answers) {
        x.reset();
        lookAtNumbers(x, answers);
        for (int position = 0; position < 10; position++) {
            for (int k = 0; k < 4; k++) {
                answers.add(number(x.gap(k, position)));
            }
        }
    }

    /** Sixteen words at a time show in which module and row a flipped bit is. */
    private static void lookAtTheScrubbing(ScrubbedRecorder x, List<Integer> answers) {
        for (int n = 0; n < 48; n++) {
            answers.add(x.tick(16));
            answers.add(x.told(0));
            answers.add(x.told(1));
            answers.add(x.told(3));
        }
        for (int n = 0; n < 4; n++) {
            x.flip(0, 36 + n, 0);
        }
        answers.add(x.tick(1));
        answers.add(x.tick(1));
        answers.add(x.tick(1));
    }

    /** Flipping back just the bits that were flipped must leave none. */
    private static void lookAtTheBits(ScrubbedRecorder x, List<Integer> answers) {
        int[][] bits = {{0, 40, 3}, {2, 127, 38}, {5, 100, 0}, {5, 100, 1}, {2, 100, 8}, {1, 47, 0}, {1, 1, 0}};
        for (int[] bit : bits) {
            answers.add(number(x.flip(bit[0], bit[1], bit[2])));
            answers.add(x.told(4));
        }
    }

    private static void lookAtTheModules(ScrubbedRecorder x, List<Integer> answers) {
        for (int module = 0; module < 6; module++) {
            for (int row = 0; row < 8; row++) {
                answers.add(number(x.flip(module, 16 * row + 9, 4)));
            }
        }
        for (int module = 5; module >= 0; module--) {
            answers.add(number(x.latch(module)));
        }
        answers.add(x.told(3));
        for (int module = 0; module < 6; module++) {
            answers.add(number(x.power(module)));
            answers.add(x.tick(0));
            answers.add(x.told(3));
        }
    }

    private static void lookAtTheBuffer(ScrubbedRecorder x, List<Integer> answers) {
        int position = x.record(3, 77, 99, 60);
        answers.add(position);
        for (int i = 0; i < 66; i++) {
            answers.add(x.packetByte(3, position, i));
        }
    }

    /** The flipped bits show which pages are opened and which words are written. */
    private static void lookAtTheRoom(ScrubbedRecorder x, List<Integer> answers) {
        for (int module = 0; module < 6; module++) {
            for (int word = 0; word < 32; word += 5) {
                x.flip(module, word, 20);
            }
        }
        for (int n = 0; n < 24; n++) {
            for (int k = 0; k < 4; k++) {
                answers.add(x.record(k, 1, 20 + n, 5 * (n % 13)));
                answers.add(x.told(4));
            }
        }
        for (int pages = 5; pages > 1; pages--) {
            answers.add(x.makeStore(2, true, pages));
        }
        answers.add(x.record(0, 1, 0, 0));
    }
}

/** Promise 1: a new object. */
public final class Promise01NewObjectTest {
    private static final Due due = new Due("promise 1");

    public static void main(String[] args) {
        nothingIsThere();
        theBufferIsBlank();
        scrubbingBeginsAtTheFirstWord();
        nothingIsSaved();
        due.end();
    }

    private static void nothingIsThere() {
        ScrubbedRecorder x = new ScrubbedRecorder();
        due.is("frame", x.frame(), ScrubbedRecorder.NONE);
        due.is("frameByte", x.frameByte(0), ScrubbedRecorder.NONE);
        for (int k = 0; k < 4; k++) {
            due.is("count", x.count(k, 0), ScrubbedRecorder.BAD);
            due.is("seek", x.seek(k, 0), ScrubbedRecorder.NONE);
            due.no("stop", x.stop(k));
        }
        due.is("corrected", x.told(0), 0);
        due.is("mended", x.told(1), 0);
        due.is("free pages", x.told(2), 40);
        due.is("lost rows", x.told(3), 0);
        due.is("flipped words", x.told(4), 0);
        for (int module = 0; module < 6; module++) {
            due.no("power: all modules are on", x.power(module));
        }
        due.is("all pages are promised to none", x.makeStore(0, false, 40), 0);
    }

    private static void theBufferIsBlank() {
        ScrubbedRecorder x = new ScrubbedRecorder();
        x.makeStore(0, true, 3);
        x.record(0, 255, 0, 60);
        for (int i = 6; i < 66; i++) {
            due.is("packetByte of " + i, x.packetByte(0, 0, i), 0);
        }
        due.is("packetByte behind the last", x.packetByte(0, 0, 66), ScrubbedRecorder.NONE);
    }

    private static void scrubbingBeginsAtTheFirstWord() {
        ScrubbedRecorder x = new ScrubbedRecorder();
        x.flip(0, 0, 0);
        x.flip(0, 1, 0);
        due.is("tick of one word", x.tick(1), 1);
        due.is("tick of the next", x.tick(1), 1);
    }

    private static void nothingIsSaved() {
        ScrubbedRecorder x = new ScrubbedRecorder();
        x.makeStore(0, true, 3);
        x.record(0, 1, 1, 0);
        x.confirm(0, 0, 0);
        x.reset();
        due.is("confirmed after a reset", x.count(0, 1), 0);
    }
}

/** Promise 1: a new object. */
public final class Promise01NewObjectTest {
    private static final Due due = new Due("promise 1");

    public static void main(String[] args) {
        asSaid();
        nothingIsSaved();
        scrubbingBeginsAtTheFirstWord();
        theBufferIsBlank();
        objectsStandApart();
        due.end();
    }

    private static void asSaid() {
        due.says("As said");
        ScrubbedRecorder x = new ScrubbedRecorder();
        due.is("frame", x.frame(), ScrubbedRecorder.NONE);
        due.is("frameByte", x.frameByte(0), ScrubbedRecorder.NONE);
        for (int k = 0; k < 4; k++) {
            due.is("no store is made", x.count(k, 0), ScrubbedRecorder.BAD);
            due.no("no playback is open", x.stop(k));
        }
        for (int module = 0; module < 6; module++) {
            due.no("no module is off", x.power(module));
        }
        int[] told = {0, 0, 40, 0, 0};
        for (int what = 0; what < told.length; what++) {
            due.is("told " + what, x.told(what), told[what]);
        }
        due.is("all pages are promised to none", x.makeStore(0, false, 40), 0);
    }

    private static void nothingIsSaved() {
        due.says("nothing is saved");
        ScrubbedRecorder x = new ScrubbedRecorder();
        x.reset();
        due.is("the words of an empty save", x.checkpoint(0), 6);
        x.makeStore(0, true, 3);
        x.record(0, 1, 1, 0);
        x.confirm(0, 0, 0);
        x.reset();
        due.is("confirmed behind a reset", x.count(0, 1), 0);
    }

    private static void scrubbingBeginsAtTheFirstWord() {
        due.says("scrubbing begins at word 0 of module 0");
        ScrubbedRecorder x = new ScrubbedRecorder();
        x.flip(0, 0, 0);
        x.flip(0, 1, 0);
        x.flip(5, 127, 0);
        due.is("tick of one word", x.tick(1), 1);
        due.is("the two others are left", x.told(4), 2);
        due.is("tick of the next", x.tick(1), 1);
        due.is("all up to the last", x.tick(765), 0);
        due.is("the last", x.tick(1), 1);
    }

    private static void theBufferIsBlank() {
        due.says("the buffer has 60 bytes, all 0.");
        ScrubbedRecorder x = Rig.withStore(true, 3);
        due.is("more than 60", x.record(0, 255, 0, 61), ScrubbedRecorder.BAD);
        due.is("60", x.record(0, 255, 0, 60), 0);
        for (int i = 6; i < 66; i++) {
            due.is("packetByte of " + i, x.packetByte(0, 0, i), 0);
        }
        due.is("packetByte behind the last", x.packetByte(0, 0, 66), ScrubbedRecorder.NONE);
    }

    private static void objectsStandApart() {
        due.says("As said");
        ScrubbedRecorder x = Rig.withPackets(true, 40, 3, 60);
        x.put(0, -1L);
        x.flip(0, 0, 0);
        x.latch(3);
        x.tick(5);
        x.play(0, 0, 9, 0);
        x.frame();
        asSaid();
        theBufferIsBlank();
        scrubbingBeginsAtTheFirstWord();
    }
}

/** The document's first section: an object answers as it should up to its 512th call. */
public final class CallsTest {
    private static final Due due = new Due("512 calls");

    public static void main(String[] args) {
        due.says("An object is used for at most 512 calls after it has been made");
        recordsToTheLast();
        storesToTheLast();
        playbacksToTheLast();
        scrubsToTheLast();
        asksToTheLast();
        due.end();
    }

    private static void recordsToTheLast() {
        ScrubbedRecorder x = Rig.withStore(true, 3);
        for (int n = 0; n < 503; n++) {
            due.is("record", x.record(0, 1, n, n % 61), n);
        }
        due.is("call 505", x.record(0, 9, 600, 0), 503);
        due.is("call 506", x.count(0, 2), 504);
        due.is("call 507", x.play(0, 600, 600, 0), 0);
        due.is("call 508", x.frame(), 11);
        due.is("call 509", x.frameByte(3), 1);
        due.is("call 510", x.frameByte(4), 503 - 256);
        due.is("call 511", x.packetByte(0, 503, 0), 9);
        due.is("call 512", x.record(0, 1, Integer.MAX_VALUE, 60), 504);
    }

    private static void storesToTheLast() {
        ScrubbedRecorder x = new ScrubbedRecorder();
        for (int n = 0; n < 128; n++) {
            due.is("makeStore", x.makeStore(n % 4, n % 2 == 0, 40), 0);
            due.is("record", x.record(n % 4, 1, 0, 60), 0);
            due.is("free pages", x.told(2), 38);
            due.yes("dropStore", x.dropStore(n % 4));
        }
    }

    private static void playbacksToTheLast() {
        ScrubbedRecorder x = Rig.withStore(true, 3);
        x.record(0, 1, 1, 1);
        for (int n = 0; n < 170; n++) {
            due.is("play", x.play(0, 0, 9, n % 10), 0);
            due.is("frame", x.frame(), 12);
            due.yes("stop", x.stop(0));
        }
    }

    private static void scrubsToTheLast() {
        ScrubbedRecorder x = new ScrubbedRecorder();
        int word = 999;
        for (int n = 0; n < 170; n++) {
            word %= 768;
            due.yes("flip", x.flip(word / 128, word % 128, n % 39));
            due.is("tick", x.tick(1000), 1);
            due.is("corrected", x.told(0), n + 1);
            word += 1000;
        }
    }

    private static void asksToTheLast() {
        ScrubbedRecorder x = Rig.withStore(true, 40);
        for (int n = 0; n < 100; n++) {
            x.record(0, 1, 1, 0);
        }
        x.play(0, 0, 9, 0);
        for (int n = 0; n < 100; n++) {
            due.yes("gap", x.gap(0, n * 37 % 100));
        }
        for (int n = 0; n < 100; n++) {
            due.is("frame", x.frame(), 11);
            due.is("position", x.frameByte(4), n * 37 % 100);
        }
        due.is("asked for", x.count(0, 5), 0);
    }
}

/** Promise 9: frameByte. */
public final class Promise09FrameByteTest {
    private static final Due due = new Due("promise 9");

    public static void main(String[] args) {
        ScrubbedRecorder x = new ScrubbedRecorder();
        due.is("no frame", x.frameByte(0), ScrubbedRecorder.NONE);
        x.makeStore(2, true, 20);
        x.put(0, 0xFF80L);
        // Position 256 shows the order of the four bytes.
        for (int n = 0; n < 256; n++) {
            x.record(2, 1, 0, 0);
        }
        due.is("record", x.record(2, 255, 0x7F6E5D4C, 3), 256);
        due.is("play", x.play(2, 1, Integer.MAX_VALUE, 0), 0);
        due.is("still no frame", x.frameByte(0), ScrubbedRecorder.NONE);
        due.is("frame", x.frame(), 14);
        holdsTheFrame(x);
        for (int n = 0; n < 140; n++) {
            x.record(2, 1, Integer.MAX_VALUE, 0);
        }
        x.dropStore(2);
        holdsTheFrame(x);
        x.reset();
        due.is("none behind a reset", x.frameByte(0), ScrubbedRecorder.NONE);
        due.end();
    }

    private static void holdsTheFrame(ScrubbedRecorder x) {
        int[] want = {2, 0, 0, 1, 0, 255, 0x7F, 0x6E, 0x5D, 0x4C, 3, 0x80, 0xFF, 0};
        for (int i = 0; i < want.length; i++) {
            due.is("byte " + i, x.frameByte(i), want[i]);
        }
        due.is("byte 14", x.frameByte(14), ScrubbedRecorder.NONE);
        due.is("byte -1", x.frameByte(-1), ScrubbedRecorder.NONE);
        due.is("least int", x.frameByte(Integer.MIN_VALUE), ScrubbedRecorder.NONE);
        due.is("greatest int", x.frameByte(Integer.MAX_VALUE), ScrubbedRecorder.NONE);
    }
}

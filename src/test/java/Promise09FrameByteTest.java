/** Promise 9: frameByte. */
public final class Promise09FrameByteTest {
    private static final Due due = new Due("promise 9");

    public static void main(String[] args) {
        bytesOfTheFrame();
        theFrameIsItsOwn();
        noFrame();
        noSuchByte();
        due.end();
    }

    private static ScrubbedRecorder withFrame() {
        ScrubbedRecorder x = new ScrubbedRecorder();
        x.makeStore(2, true, 3);
        x.put(0, 0xFF807FL);
        x.record(2, 250, 0x12345678, 3);
        x.play(2, 0, Integer.MAX_VALUE, 0);
        due.is("frame", x.frame(), 14);
        return x;
    }

    private static void holdsTheFrame(ScrubbedRecorder x) {
        int[] want = {2, 0, 0, 0, 0, 250, 0x12, 0x34, 0x56, 0x78, 3, 0x7F, 0x80, 0xFF};
        for (int i = 0; i < want.length; i++) {
            due.is("byte " + i, x.frameByte(i), want[i]);
        }
    }

    private static void bytesOfTheFrame() {
        due.says("Byte i of the frame; NONE when there is no frame or no such byte.");
        holdsTheFrame(withFrame());
    }

    private static void theFrameIsItsOwn() {
        due.says("Byte i of the frame; NONE when there is no frame or no such byte.");
        ScrubbedRecorder x = withFrame();
        x.put(0, 0L);
        x.confirm(2, 0, 0);
        for (int n = 0; n < 4; n++) {
            x.record(2, 1, Integer.MAX_VALUE, Rig.PAGE);
        }
        due.is("its packet is kept no more", x.packetByte(2, 0, 0), ScrubbedRecorder.NONE);
        holdsTheFrame(x);
        x.dropStore(2);
        x.makeStore(2, false, 5);
        x.record(2, 9, 9, 9);
        holdsTheFrame(x);
    }

    private static void noFrame() {
        due.says("NONE when there is no frame or no such byte.");
        ScrubbedRecorder x = new ScrubbedRecorder();
        due.is("a new object", x.frameByte(0), ScrubbedRecorder.NONE);
        x.makeStore(0, true, 3);
        x.record(0, 1, 1, 1);
        x.play(0, 0, 9, 0);
        due.is("nothing was sent", x.frameByte(0), ScrubbedRecorder.NONE);
        x.frame();
        due.is("sent", x.frameByte(0), 0);
        x.reset();
        due.is("behind a reset", x.frameByte(0), ScrubbedRecorder.NONE);
        due.is("behind a reset", x.frameByte(5), ScrubbedRecorder.NONE);
    }

    private static void noSuchByte() {
        due.says("NONE when there is no frame or no such byte.");
        ScrubbedRecorder x = withFrame();
        int[] wrong = {-1, 14, 15, 70, 71, Integer.MIN_VALUE, Integer.MIN_VALUE + 5, Integer.MAX_VALUE};
        for (int i : wrong) {
            due.is("byte " + i, x.frameByte(i), ScrubbedRecorder.NONE);
        }
    }
}

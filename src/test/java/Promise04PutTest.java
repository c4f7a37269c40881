/** Promise 4: put. */
public final class Promise04PutTest {
    private static final Due due = new Due("promise 4");

    public static void main(String[] args) {
        theLowestFirst();
        overOtherBytes();
        beyondTheLastByte();
        refused();
        due.end();
    }

    private static void theLowestFirst() {
        due.says("The bytes i .. i + 7 of the buffer become the eight bytes of v, the lowest first");
        long[] values = {0x8877665544332211L, 0L, -1L, Long.MIN_VALUE, Long.MAX_VALUE, 0xFF00FF0080017F02L};
        for (long v : values) {
            ScrubbedRecorder x = Rig.withStore(true, 3);
            x.put(8, 0x0101010101010101L);
            due.yes("i 0", x.put(0, v));
            int[] want = new int[60];
            for (int i = 0; i < 8; i++) {
                want[i] = (int) (v >>> (8 * i)) & 255;
                want[8 + i] = 1;
            }
            holds(x, want);
        }
    }

    private static void overOtherBytes() {
        due.says("The bytes i .. i + 7 of the buffer become the eight bytes of v, the lowest first");
        ScrubbedRecorder x = Rig.withStore(true, 3);
        x.put(0, -1L);
        x.put(8, -1L);
        due.yes("i 3", x.put(3, 0x0102030405060708L));
        int[] want = new int[60];
        for (int i = 0; i < 16; i++) {
            want[i] = i >= 3 && i <= 10 ? 11 - i : 255;
        }
        holds(x, want);
    }

    /** What is left out must not go to the buffer's beginning, either. */
    private static void beyondTheLastByte() {
        due.says("those beyond byte 59 are left out.");
        for (int i = 51; i < 60; i++) {
            ScrubbedRecorder x = Rig.withStore(true, 3);
            due.yes("i " + i, x.put(i, 0xF8F7F6F5F4F3F2F1L));
            int[] want = new int[60];
            for (int n = 0; n < 8 && i + n < 60; n++) {
                want[i + n] = 0xF1 + n;
            }
            holds(x, want);
        }
    }

    private static void refused() {
        due.says("Answers true; false, refused, when i is not 0 .. 59.");
        ScrubbedRecorder x = Rig.withStore(true, 3);
        int[] wrong = {-1, -7, -8, 60, 61, Integer.MIN_VALUE, Integer.MAX_VALUE};
        for (int i : wrong) {
            due.no("i " + i, x.put(i, -1L));
        }
        holds(x, new int[60]);
        for (int i = 0; i < 60; i++) {
            due.yes("i " + i, x.put(i, 0L));
        }
    }

    private static void holds(ScrubbedRecorder x, int[] want) {
        int position = x.record(0, 1, 1, 60);
        for (int i = 0; i < want.length; i++) {
            due.is("byte " + i + " of the buffer", x.packetByte(0, position, 6 + i), want[i]);
        }
    }
}

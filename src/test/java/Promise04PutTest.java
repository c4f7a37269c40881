/** Promise 4: put. */
public final class Promise04PutTest {
    private static final Due due = new Due("promise 4");

    public static void main(String[] args) {
        ScrubbedRecorder x = new ScrubbedRecorder();
        x.makeStore(0, true, 3);
        due.no("i -1", x.put(-1, -1L));
        due.no("i 60", x.put(60, -1L));
        due.no("least int", x.put(Integer.MIN_VALUE, -1L));
        due.no("greatest int", x.put(Integer.MAX_VALUE, -1L));
        holds(x, 0, new int[60]);

        int[] want = new int[60];
        due.yes("i 0", x.put(0, 0x8877665544332211L));
        for (int i = 0; i < 8; i++) {
            want[i] = 0x11 * (i + 1);
        }
        holds(x, 1, want);

        due.yes("i 3, over the bytes before", x.put(3, 0x0102030405060708L));
        for (int i = 0; i < 8; i++) {
            want[3 + i] = 8 - i;
        }
        holds(x, 2, want);

        due.yes("i 56: half of it is left out", x.put(56, 0xFFFFFFFFF4F3F2F1L));
        for (int i = 0; i < 4; i++) {
            want[56 + i] = 0xF1 + i;
        }
        holds(x, 3, want);

        due.yes("i 52: just fits", x.put(52, 0xA8A7A6A5A4A3A2A1L));
        for (int i = 0; i < 8; i++) {
            want[52 + i] = 0xA1 + i;
        }
        holds(x, 4, want);

        due.yes("i 59: one byte alone", x.put(59, 0x7FL));
        want[59] = 0x7F;
        holds(x, 5, want);
        due.end();
    }

    private static void holds(ScrubbedRecorder x, int position, int[] want) {
        due.is("record", x.record(0, 1, 1, 60), position);
        for (int i = 0; i < want.length; i++) {
            due.is("byte " + i + " of packet " + position, x.packetByte(0, position, 6 + i), want[i]);
        }
    }
}

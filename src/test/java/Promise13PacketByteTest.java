/** Promise 13: packetByte. */
public final class Promise13PacketByteTest {
    private static final Due due = new Due("promise 13");

    public static void main(String[] args) {
        whatTellsAPacket();
        noSuchPacket();
        flipsAndLostModulesDoNotHarm();
        due.end();
    }

    private static void whatTellsAPacket() {
        ScrubbedRecorder x = new ScrubbedRecorder();
        x.makeStore(0, true, 3);
        x.put(0, 0x04030201FFFE807FL);
        x.record(0, 254, 0x01C2A304, 7);
        x.put(0, 0L);
        int[] want = {254, 0x01, 0xC2, 0xA3, 0x04, 7, 0x7F, 0x80, 0xFE, 0xFF, 1, 2, 3};
        for (int i = 0; i < want.length; i++) {
            due.is("byte " + i, x.packetByte(0, 0, i), want[i]);
        }
        due.is("byte behind the last", x.packetByte(0, 0, 13), ScrubbedRecorder.NONE);
        due.is("byte -1", x.packetByte(0, 0, -1), ScrubbedRecorder.NONE);
        due.is("least int", x.packetByte(0, 0, Integer.MIN_VALUE), ScrubbedRecorder.NONE);
        due.is("greatest int", x.packetByte(0, 0, Integer.MAX_VALUE), ScrubbedRecorder.NONE);
        x.record(0, 0, Integer.MAX_VALUE, 0);
        due.is("highest byte of the time", x.packetByte(0, 1, 1), 127);
        due.is("an empty packet has 6 bytes", x.packetByte(0, 1, 5), 0);
        due.is("and no more", x.packetByte(0, 1, 6), ScrubbedRecorder.NONE);
    }

    private static void noSuchPacket() {
        ScrubbedRecorder x = new ScrubbedRecorder();
        due.is("not made", x.packetByte(0, 0, 0), ScrubbedRecorder.NONE);
        due.is("k -1", x.packetByte(-1, 0, 0), ScrubbedRecorder.NONE);
        due.is("k 4", x.packetByte(4, 0, 0), ScrubbedRecorder.NONE);
        x.makeStore(0, true, 3);
        due.is("none yet", x.packetByte(0, 0, 0), ScrubbedRecorder.NONE);
        for (int n = 0; n < 4; n++) {
            x.record(0, n, n, 44);
        }
        due.is("freed", x.packetByte(0, 0, 0), ScrubbedRecorder.NONE);
        due.is("least kept", x.packetByte(0, 1, 0), 1);
        due.is("last", x.packetByte(0, 3, 0), 3);
        due.is("above all", x.packetByte(0, 4, 0), ScrubbedRecorder.NONE);
        due.is("below all", x.packetByte(0, -1, 0), ScrubbedRecorder.NONE);
        due.is("least int", x.packetByte(0, Integer.MIN_VALUE, 0), ScrubbedRecorder.NONE);
        due.is("greatest int", x.packetByte(0, Integer.MAX_VALUE, 0), ScrubbedRecorder.NONE);
        x.confirm(0, 3, 3);
        due.is("a confirmed one that is kept", x.packetByte(0, 3, 0), 3);
    }

    private static void flipsAndLostModulesDoNotHarm() {
        ScrubbedRecorder x = new ScrubbedRecorder();
        x.makeStore(0, true, 40);
        for (int i = 0; i < 60; i += 8) {
            x.put(i, 0x0102030405060708L * (i + 1));
        }
        for (int n = 0; n < 20; n++) {
            x.record(0, n, n, 60);
        }
        int[] before = bytesOf(x, 20);
        for (int word = 0; word < 128; word++) {
            x.flip(word % 6, word, word % 39);
            x.flip(word % 6, word, (word + 7) % 39);
        }
        same("with flipped bits", before, bytesOf(x, 20));
        x.tick(768);
        x.latch(2);
        same("with a module off", before, bytesOf(x, 20));
        x.power(2);
        same("with a blank module", before, bytesOf(x, 20));
        x.tick(0);
        x.reset();
        same("behind a reset", before, bytesOf(x, 20));
    }

    private static int[] bytesOf(ScrubbedRecorder x, int packets) {
        int[] bytes = new int[packets * 66];
        for (int n = 0; n < bytes.length; n++) {
            bytes[n] = x.packetByte(0, n / 66, n % 66);
        }
        return bytes;
    }

    private static void same(String when, int[] want, int[] got) {
        for (int n = 0; n < want.length; n++) {
            due.is("byte " + n + " " + when, got[n], want[n]);
        }
    }
}

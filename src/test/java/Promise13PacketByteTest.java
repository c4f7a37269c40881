/** Promise 13: packetByte. */
public final class Promise13PacketByteTest {
    private static final Due due = new Due("promise 13");

    public static void main(String[] args) {
        whatTellsAPacket();
        anEmptyPacket();
        confirmedPacketsAreThere();
        noSuchPacket();
        noSuchByte();
        flippedBitsDoNoHarm();
        manyFlippedBitsDoNoHarm();
        mendingDoesNoHarm();
        lostModulesDoNoHarm();
        recordedWhileAModuleIsLost();
        due.end();
    }

    private static void whatTellsAPacket() {
        due.says("Byte i of those that tell a packet; NONE when there is no such packet kept or no such byte.");
        ScrubbedRecorder x = Rig.withStore(true, 3);
        x.put(0, 0x04030201FFFE807FL);
        x.record(0, 254, 0x01C2A304, 7);
        x.put(0, 0L);
        int[] want = {254, 0x01, 0xC2, 0xA3, 0x04, 7, 0x7F, 0x80, 0xFE, 0xFF, 1, 2, 3};
        for (int i = 0; i < want.length; i++) {
            due.is("byte " + i, x.packetByte(0, 0, i), want[i]);
        }
        due.is("byte behind the last", x.packetByte(0, 0, 13), ScrubbedRecorder.NONE);
    }

    private static void anEmptyPacket() {
        due.says("Byte i of those that tell a packet; NONE when there is no such packet kept or no such byte.");
        ScrubbedRecorder x = Rig.withStore(true, 3);
        x.put(0, -1L);
        x.record(0, 0, Integer.MAX_VALUE, 0);
        int[] want = {0, 127, 255, 255, 255, 0};
        for (int i = 0; i < want.length; i++) {
            due.is("byte " + i, x.packetByte(0, 0, i), want[i]);
        }
        due.is("no byte more", x.packetByte(0, 0, 6), ScrubbedRecorder.NONE);
    }

    private static void confirmedPacketsAreThere() {
        due.says("Byte i of those that tell a packet; NONE when there is no such packet kept or no such byte.");
        ScrubbedRecorder x = Rig.withPackets(true, 3, 3, 0);
        x.confirm(0, 0, 2);
        for (int position = 0; position < 3; position++) {
            due.is("packet " + position, x.packetByte(0, position, 0), position);
        }
    }

    private static void noSuchPacket() {
        due.says("NONE when there is no such packet kept or no such byte.");
        ScrubbedRecorder x = Rig.withStore(true, 3);
        due.is("none yet", x.packetByte(0, 0, 0), ScrubbedRecorder.NONE);
        Rig.recordMore(x, 0, 4, Rig.PAGE);
        int[] stores = {-1, 1, 2, 3, 4, Integer.MIN_VALUE, Integer.MAX_VALUE};
        for (int k : stores) {
            due.is("store " + k, x.packetByte(k, 1, 0), ScrubbedRecorder.NONE);
        }
        int[] positions = {-1, 0, 4, Integer.MIN_VALUE, Integer.MAX_VALUE};
        for (int position : positions) {
            due.is("position " + position, x.packetByte(0, position, 0), ScrubbedRecorder.NONE);
        }
        due.is("least kept", x.packetByte(0, 1, 0), 1);
        due.is("last", x.packetByte(0, 3, 0), 3);
        x.dropStore(0);
        due.is("dropped", x.packetByte(0, 3, 0), ScrubbedRecorder.NONE);
    }

    private static void noSuchByte() {
        due.says("NONE when there is no such packet kept or no such byte.");
        ScrubbedRecorder x = Rig.withStore(true, 3);
        x.record(0, 1, 1, 60);
        x.record(0, 1, 1, 4);
        int[] wrong = {-1, 66, Integer.MIN_VALUE, Integer.MAX_VALUE};
        for (int i : wrong) {
            due.is("byte " + i, x.packetByte(0, 0, i), ScrubbedRecorder.NONE);
            due.is("byte " + i + " of a shorter one", x.packetByte(0, 1, i), ScrubbedRecorder.NONE);
        }
        due.is("its last", x.packetByte(0, 0, 65), 0);
        due.is("the last of the shorter one", x.packetByte(0, 1, 9), 0);
        due.is("behind that", x.packetByte(0, 1, 10), ScrubbedRecorder.NONE);
    }

    /** Three packets of 60 bytes, in the words 3 .. 15 of pages 0 to 3. */
    private static ScrubbedRecorder withBytes() {
        ScrubbedRecorder x = Rig.withStore(true, 40);
        for (int i = 0; i < 60; i++) {
            x.put(i, 3 * i + 1);
        }
        for (int n = 0; n < 3; n++) {
            x.record(0, n, n, 60);
        }
        return x;
    }

    private static void tellsWithBytes(String when, ScrubbedRecorder x) {
        for (int n = 0; n < 3; n++) {
            due.is("source " + when, x.packetByte(0, n, 0), n);
            for (int i = 0; i < 60; i++) {
                due.is("byte " + i + " " + when, x.packetByte(0, n, 6 + i), 3 * i + 1 & 255);
            }
        }
    }

    private static void flippedBitsDoNoHarm() {
        due.says("Byte i of those that tell a packet; NONE when there is no such packet kept or no such byte.");
        ScrubbedRecorder x = withBytes();
        for (int word = 3; word < 16; word++) {
            Rig.flipTwo(x, 1 + word % 4, word);
            x.flip(1 + (word + 1) % 4, word, word);
        }
        tellsWithBytes("with flipped bits", x);
    }

    private static void manyFlippedBitsDoNoHarm() {
        due.says("Byte i of those that tell a packet; NONE when there is no such packet kept or no such byte.");
        for (int worst = 0; worst < 6; worst++) {
            ScrubbedRecorder x = withBytes();
            for (int word = 0; word < 16; word++) {
                Rig.flipTwo(x, worst, word);
                for (int module = 0; module < 6; module++) {
                    if (module != worst) {
                        x.flip(module, word, (word + module) % 39);
                    }
                }
            }
            due.is("flipped words", x.told(4), 96);
            tellsWithBytes("with a flipped bit everywhere", x);
        }
    }

    private static void mendingDoesNoHarm() {
        due.says("Byte i of those that tell a packet; NONE when there is no such packet kept or no such byte.");
        ScrubbedRecorder x = withBytes();
        for (int word = 0; word < 16; word++) {
            Rig.flipTwo(x, 2, word);
            x.flip(0, word, 7);
        }
        due.is("tick", x.tick(768), 32);
        x.latch(1);
        tellsWithBytes("mended, with another module off", x);
    }

    private static void lostModulesDoNoHarm() {
        due.says("Byte i of those that tell a packet; NONE when there is no such packet kept or no such byte.");
        for (int module = 0; module < 6; module++) {
            ScrubbedRecorder x = withBytes();
            x.latch(module);
            tellsWithBytes("with a module off", x);
            ScrubbedRecorder y = withBytes();
            y.latch(module);
            y.power(module);
            y.tick(0);
            tellsWithBytes("with a module rebuilt", y);
        }
    }

    /** Then another module is lost: what was recorded must have come to the first one by rebuilding. */
    private static void recordedWhileAModuleIsLost() {
        due.says("Byte i of those that tell a packet; NONE when there is no such packet kept or no such byte.");
        for (int module = 0; module < 6; module++) {
            ScrubbedRecorder x = Rig.withStore(true, 40);
            for (int i = 0; i < 60; i++) {
                x.put(i, 3 * i + 1);
            }
            x.latch(module);
            x.record(0, 0, 0, 60);
            x.power(module);
            x.record(0, 1, 1, 60);
            x.tick(0);
            x.record(0, 2, 2, 60);
            Rig.rebuild(x, 7);
            x.latch((module + 1) % 6);
            tellsWithBytes("with the next module off", x);
        }
    }
}

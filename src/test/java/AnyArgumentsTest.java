/** No call ever throws, whatever its arguments, also long behind the 512th (LANGUAGE.md, rule 7). */
public final class AnyArgumentsTest {
    private static final int[] EDGES = {
        Integer.MIN_VALUE, Integer.MIN_VALUE + 1, -129, -2, -1, 0, 1, 2, 3, 4, 5, 6, 12, 38, 39, 40,
        41, 59, 60, 61, 127, 128, 255, 256, 1000, 1001, Integer.MAX_VALUE - 1, Integer.MAX_VALUE,
    };
    private static final int CALLS = 200000;

    private long seed = 5;

    public static void main(String[] args) {
        AnyArgumentsTest test = new AnyArgumentsTest();
        ScrubbedRecorder x = null;
        for (int n = 0; n < CALLS; n++) {
            if (n % 20000 == 0) {
                x = new ScrubbedRecorder();
            }
            test.call(x);
        }
    }

    private int draw(int bound) {
        seed = seed * 6364136223846793005L + 1442695040888963407L;
        return (int) ((seed >>> 33) % bound);
    }

    private int any() {
        return draw(3) == 0 ? EDGES[draw(EDGES.length)] : draw(6);
    }

    private void call(ScrubbedRecorder x) {
        switch (draw(24)) {
            case 0: x.makeStore(any(), draw(2) == 0, any()); break;
            case 1: if (draw(50) == 0) { x.dropStore(any()); } break;
            case 2: x.put(any(), seed); break;
            case 3: x.play(any(), any(), any(), any()); break;
            case 4: x.stop(any()); break;
            case 5: x.frame(); break;
            case 6: x.frameByte(any()); break;
            case 7: x.confirm(any(), any(), any()); break;
            case 8: x.gap(any(), any()); break;
            case 9: x.count(any(), any()); break;
            case 10: x.packetByte(any(), any(), any()); break;
            case 11: x.seek(any(), any()); break;
            case 12: x.tick(any()); break;
            case 13: x.flip(any(), any(), any()); break;
            case 14: x.latch(any()); break;
            case 15: x.power(any()); break;
            case 16: x.checkpoint(any()); break;
            case 17: if (draw(20) == 0) { x.reset(); } break;
            case 18: x.told(any()); break;
            case 19: x.record(any(), any(), any(), any()); break;
            default: x.record(draw(4), draw(256), draw(100) == 0 ? any() : 1, draw(61)); break;
        }
    }
}

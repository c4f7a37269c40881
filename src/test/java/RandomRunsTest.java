/**
 * Holds the class against PlainModel in many runs of 512 calls, as many as an object is good for.
 * The runs are drawn from a fixed row of numbers, so that each time they are the same ones.
 */
public final class RandomRunsTest {
    private static final int RUNS = 800;
    private static final int CALLS = 512;
    /** So many calls at the end of a run, or a few less, look at the state that it has reached. */
    private static final int LAST_LOOK = 150;

    /** How often each call comes, by kinds of runs: the calls are in the order of the face. */
    private static final int[][] WEIGHTS = {
        {4, 1, 4, 30, 4, 2, 12, 4, 6, 5, 6, 6, 3, 4, 6, 1, 1, 3, 1, 4},
        {3, 1, 4, 60, 2, 1, 4, 2, 8, 2, 4, 4, 2, 1, 1, 1, 1, 2, 1, 2},
        {2, 1, 1, 12, 1, 1, 2, 1, 2, 1, 1, 2, 1, 12, 60, 3, 4, 1, 1, 6},
        {2, 1, 1, 12, 10, 6, 30, 10, 4, 12, 4, 2, 1, 1, 1, 1, 1, 2, 1, 1},
        {3, 1, 2, 25, 2, 1, 2, 2, 14, 3, 8, 4, 2, 1, 1, 1, 1, 8, 4, 1},
    };

    private final ScrubbedRecorder x = new ScrubbedRecorder();
    private final PlainModel y = new PlainModel();
    private final boolean dense;
    private final int[] weights;
    private long seed;
    private int calls;
    private String call;

    private RandomRunsTest(int run) {
        seed = 1000003L * run + 17;
        weights = WEIGHTS[run % WEIGHTS.length];
        dense = run % 2 == 0;
    }

    public static void main(String[] args) {
        for (int run = 0; run < RUNS; run++) {
            RandomRunsTest test = new RandomRunsTest(run);
            if (!test.agrees()) {
                System.out.println("run " + run + ", call " + test.calls + ": " + test.call);
                System.exit(1);
            }
        }
    }

    private boolean agrees() {
        while (calls < CALLS - LAST_LOOK) {
            if (!callAgrees()) {
                return false;
            }
        }
        return stateAgrees();
    }

    private int draw(int bound) {
        seed = seed * 6364136223846793005L + 1442695040888963407L;
        return (int) ((seed >>> 33) % bound);
    }

    /** From least to most, now and then one outside, seldom one far outside. */
    private int near(int least, int most) {
        int luck = draw(60);
        if (luck == 0) {
            return least - 1;
        }
        if (luck == 1) {
            return most + 1;
        }
        if (luck == 2 && draw(4) == 0) {
            return draw(2) == 0 ? Integer.MIN_VALUE : Integer.MAX_VALUE;
        }
        return least + draw(most - least + 1);
    }

    private int store() {
        return near(0, dense ? 1 : 3);
    }

    private int position(int k) {
        int next = Math.max(y.count(k, 2), 0);
        int kept = Math.max(y.count(k, 0), 0);
        return near(next - kept, next);
    }

    private int time(int k) {
        int clock = Math.max(y.count(k, 4), 0);
        return clock > 1000000 ? clock : near(clock, clock + 4);
    }

    private int someTime(int k) {
        return near(Math.max(0, y.count(k, 4) - 60), Math.max(1, Math.min(y.count(k, 4), 1000000) + 5));
    }

    private int chooseCall() {
        int all = 0;
        for (int weight : weights) {
            all += weight;
        }
        int luck = draw(all);
        int chosen = 0;
        while (luck >= weights[chosen]) {
            luck -= weights[chosen];
            chosen++;
        }
        return chosen;
    }

    private boolean callAgrees() {
        int chosen = calls < 2 ? 0 : chooseCall();
        switch (chosen) {
            case 0: return make();
            case 1: return draw(4) != 0 || drop();
            case 2: return put();
            case 3: return recordOne();
            case 4: return playOne();
            case 5: return stopOne();
            case 6: return same("frame", x.frame(), y.frame()) && someOfTheFrameAgrees();
            case 7: return askAgain();
            case 8: return confirmSome();
            case 9: return seekOne();
            case 10: return readOne();
            case 11: return countOne();
            case 12: return tellOne();
            case 13: return tickOnce();
            case 14: return flipOne();
            case 15: return latchOne();
            case 16: return powerOne();
            case 17: return checkpointOnce();
            case 18: return draw(3) != 0 || resetOnce();
            default: return tickRow();
        }
    }

    private boolean same(String name, long got, long want) {
        calls++;
        call = name + " answered " + got + ", due is " + want;
        return got == want;
    }

    private boolean same(String name, boolean got, boolean want) {
        return same(name, got ? 1 : 0, want ? 1 : 0);
    }

    private static String text(String name, long... arguments) {
        return name + java.util.Arrays.toString(arguments);
    }

    private boolean make() {
        int k = store();
        boolean circular = draw(2) == 0;
        int pages = dense ? near(3, 5) : near(3, draw(3) == 0 ? 40 : 12);
        return same(text("makeStore", k, pages), x.makeStore(k, circular, pages), y.makeStore(k, circular, pages));
    }

    private boolean drop() {
        int k = store();
        return same(text("dropStore", k), x.dropStore(k), y.dropStore(k)) && countsAgree();
    }

    private boolean put() {
        int i = near(0, 59);
        long v = ((long) draw(Integer.MAX_VALUE) << 33) ^ draw(Integer.MAX_VALUE);
        return same(text("put", i, v), x.put(i, v), y.put(i, v));
    }

    private boolean recordOne() {
        int k = store();
        int source = near(0, 255);
        int time = time(k);
        int len = draw(3) == 0 ? near(0, 12) : near(0, 60);
        return same(text("record", k, source, time, len), x.record(k, source, time, len), y.record(k, source, time, len))
            && same("flipped words", x.told(4), y.told(4));
    }

    private boolean playOne() {
        int k = store();
        int from = someTime(k);
        int to = draw(5) == 0 ? someTime(k) : Integer.MAX_VALUE;
        int prio = draw(3) == 0 ? near(0, 9) : near(0, 1);
        return same(text("play", k, from, to, prio), x.play(k, from, to, prio), y.play(k, from, to, prio));
    }

    private boolean stopOne() {
        int p = near(0, 3);
        return same(text("stop", p), x.stop(p), y.stop(p));
    }

    private boolean someOfTheFrameAgrees() {
        int i = draw(2) == 0 ? 4 : near(0, 70);
        return same(text("frameByte", i), x.frameByte(i), y.frameByte(i));
    }

    private boolean askAgain() {
        int k = store();
        int position = position(k);
        return same(text("gap", k, position), x.gap(k, position), y.gap(k, position));
    }

    private boolean confirmSome() {
        int k = store();
        int from = position(k);
        int to = draw(20) == 0 ? position(k) : from > Integer.MAX_VALUE - 9 ? from : from + draw(5);
        return same(text("confirm", k, from, to), x.confirm(k, from, to), y.confirm(k, from, to))
            && same("kept", x.count(k, 0), y.count(k, 0)) && same("pages", x.count(k, 3), y.count(k, 3));
    }

    private boolean seekOne() {
        int k = store();
        int time = someTime(k);
        return same(text("seek", k, time), x.seek(k, time), y.seek(k, time));
    }

    private boolean readOne() {
        int k = store();
        int position = position(k);
        int i = near(0, 65);
        return same(text("packetByte", k, position, i), x.packetByte(k, position, i), y.packetByte(k, position, i));
    }

    private boolean countOne() {
        int k = store();
        int what = near(0, 5);
        return same(text("count", k, what), x.count(k, what), y.count(k, what));
    }

    private boolean tellOne() {
        int what = near(0, 4);
        return same(text("told", what), x.told(what), y.told(what));
    }

    private boolean tickOnce() {
        int words = draw(4) == 0 ? near(0, 1000) : near(0, 40);
        return same(text("tick", words), x.tick(words), y.tick(words));
    }

    private boolean tickRow() {
        return same("tick[0]", x.tick(0), y.tick(0)) && same("lost rows", x.told(3), y.told(3));
    }

    /** Few bits of few words, so that flips meet one another, and pages that are written. */
    private boolean flipOne() {
        int module = near(0, 5);
        int word = draw(3) == 0 ? near(0, 127) : 16 * draw(2) + draw(8);
        int bit = draw(8) == 0 ? near(0, 38) : 36 + draw(3);
        return same(text("flip", module, word, bit), x.flip(module, word, bit), y.flip(module, word, bit));
    }

    private boolean latchOne() {
        int module = near(0, 5);
        return same(text("latch", module), x.latch(module), y.latch(module)) && same("flipped words", x.told(4), y.told(4));
    }

    private boolean powerOne() {
        int module = near(0, 5);
        return same(text("power", module), x.power(module), y.power(module));
    }

    private boolean checkpointOnce() {
        int words = near(0, 14);
        return same(text("checkpoint", words), x.checkpoint(words), y.checkpoint(words));
    }

    private boolean resetOnce() {
        calls++;
        x.reset();
        y.reset();
        return countsAgree();
    }

    private boolean stateAgrees() {
        return countsAgree() && packetsAgree();
    }

    private boolean countsAgree() {
        for (int what = 0; what < 6; what++) {
            if (!same(text("told", what), x.told(what), y.told(what))) {
                return false;
            }
            for (int k = 0; k < 4; k++) {
                if (!same(text("count", k, what), x.count(k, what), y.count(k, what))) {
                    return false;
                }
            }
        }
        return true;
    }

    private boolean packetsAgree() {
        while (calls < CALLS) {
            if (!readOne()) {
                return false;
            }
        }
        return true;
    }
}

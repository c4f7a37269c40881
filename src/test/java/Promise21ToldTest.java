/** Promise 21: told. */
public final class Promise21ToldTest {
    private static final Due due = new Due("promise 21");

    public static void main(String[] args) {
        ScrubbedRecorder x = new ScrubbedRecorder();
        due.is("what -1", x.told(-1), ScrubbedRecorder.BAD);
        due.is("what 5", x.told(5), ScrubbedRecorder.BAD);
        due.is("least int", x.told(Integer.MIN_VALUE), ScrubbedRecorder.BAD);
        tells(x, 0, 0, 40, 0, 0);
        x.makeStore(0, true, 3);
        x.makeStore(1, false, 9);
        tells(x, 0, 0, 40, 0, 0);
        x.record(0, 1, 1, 60);
        x.record(1, 1, 1, 0);
        tells(x, 0, 0, 37, 0, 0);
        x.flip(0, 100, 0);
        x.flip(1, 100, 0);
        x.flip(1, 100, 1);
        x.flip(5, 127, 38);
        tells(x, 0, 0, 37, 0, 3);
        x.tick(300);
        tells(x, 1, 1, 37, 0, 1);
        x.latch(4);
        tells(x, 1, 1, 37, 8, 1);
        x.power(4);
        tells(x, 1, 1, 37, 8, 1);
        x.tick(468);
        tells(x, 2, 1, 37, 7, 0);
        x.reset();
        tells(x, 2, 1, 37, 7, 0);
        x.dropStore(0);
        tells(x, 2, 1, 39, 7, 0);
        for (int row = 0; row < 7; row++) {
            x.tick(0);
        }
        tells(x, 2, 1, 39, 0, 0);
        due.end();
    }

    private static void tells(ScrubbedRecorder x, int... want) {
        for (int what = 0; what < want.length; what++) {
            due.is("told(" + what + ")", x.told(what), want[what]);
        }
    }
}

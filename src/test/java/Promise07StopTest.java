/** Promise 7: stop. */
public final class Promise07StopTest {
    private static final Due due = new Due("promise 7");

    public static void main(String[] args) {
        ScrubbedRecorder x = new ScrubbedRecorder();
        x.makeStore(0, true, 3);
        x.record(0, 1, 1, 0);
        due.no("not open", x.stop(0));
        due.no("p -1", x.stop(-1));
        due.no("p 4", x.stop(4));
        due.no("least int", x.stop(Integer.MIN_VALUE));
        x.play(0, 0, 9, 0);
        due.is("it sends", x.frame(), 11);
        due.no("another one", x.stop(1));
        due.yes("open", x.stop(0));
        due.no("open no more", x.stop(0));
        due.is("it sends no more", x.frame(), ScrubbedRecorder.NONE);
        due.is("the frame stays", x.frameByte(5), 1);
        due.end();
    }
}

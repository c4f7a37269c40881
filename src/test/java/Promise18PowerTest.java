/** Promise 18: power. */
public final class Promise18PowerTest {
    private static final Due due = new Due("promise 18");

    public static void main(String[] args) {
        ScrubbedRecorder x = new ScrubbedRecorder();
        due.no("module -1", x.power(-1));
        due.no("module 6", x.power(6));
        due.no("on", x.power(0));
        x.latch(3);
        due.no("another one", x.power(2));
        due.no("module -1, one is off", x.power(-1));
        due.is("still off", x.told(3), 8);
        x.tick(5);
        due.is("an off module is not rebuilt", x.told(3), 8);
        due.yes("off", x.power(3));
        due.is("blank in all rows", x.told(3), 8);
        due.no("on already", x.power(3));
        due.no("no word is there", x.flip(3, 0, 0));
        x.tick(0);
        due.no("blank in some rows", x.power(3));
        due.is("refused: seven rows are blank", x.told(3), 7);
        for (int row = 1; row < 8; row++) {
            x.tick(0);
        }
        due.no("rebuilt", x.power(3));
        due.yes("latched anew", x.latch(3));
        due.yes("on anew", x.power(3));
        due.is("blank anew in all rows", x.told(3), 8);
        due.end();
    }
}

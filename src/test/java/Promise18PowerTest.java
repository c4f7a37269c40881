/** Promise 18: power. */
public final class Promise18PowerTest {
    private static final Due due = new Due("promise 18");

    public static void main(String[] args) {
        onAgainAndBlank();
        blankAnew();
        noSuchModule();
        notOff();
        due.end();
    }

    private static void onAgainAndBlank() {
        due.says("A module that is off is on again, and blank in all rows.");
        for (int module = 0; module < 6; module++) {
            ScrubbedRecorder x = new ScrubbedRecorder();
            x.latch(module);
            due.yes("power", x.power(module));
            due.is("blank in all rows", x.told(3), 8);
            for (int row = 0; row < 8; row++) {
                due.no("row " + row, x.flip(module, 16 * row, 0));
            }
            x.tick(0);
            due.is("on: a tick rebuilds", x.told(3), 7);
        }
    }

    private static void blankAnew() {
        due.says("A module that is off is on again, and blank in all rows.");
        ScrubbedRecorder x = new ScrubbedRecorder();
        x.latch(3);
        x.power(3);
        Rig.rebuild(x, 8);
        due.yes("latched anew", x.latch(3));
        due.yes("on anew", x.power(3));
        due.is("blank in all rows", x.told(3), 8);
        due.no("the first word", x.flip(3, 0, 0));
    }

    private static void noSuchModule() {
        due.says("Answers true; refused with false when there is no such module or it is not off.");
        ScrubbedRecorder x = new ScrubbedRecorder();
        int[] wrong = {-1, 6, Integer.MIN_VALUE, Integer.MAX_VALUE};
        for (int module : wrong) {
            due.no("all are on: " + module, x.power(module));
        }
        x.latch(0);
        for (int module : wrong) {
            due.no("one is off: " + module, x.power(module));
        }
        x.tick(0);
        due.is("it is off still", x.told(3), 8);
    }

    private static void notOff() {
        due.says("Answers true; refused with false when there is no such module or it is not off.");
        ScrubbedRecorder x = new ScrubbedRecorder();
        for (int module = 0; module < 6; module++) {
            due.no("on: " + module, x.power(module));
        }
        x.latch(3);
        for (int module = 0; module < 6; module++) {
            if (module != 3) {
                due.no("on: " + module, x.power(module));
            }
        }
        due.yes("off", x.power(3));
        due.no("on already, blank", x.power(3));
        x.tick(0);
        due.no("blank in some rows", x.power(3));
        due.is("the rebuilt row stays", x.told(3), 7);
        Rig.rebuild(x, 7);
        due.no("rebuilt", x.power(3));
        due.is("no row is blank", x.told(3), 0);
    }
}

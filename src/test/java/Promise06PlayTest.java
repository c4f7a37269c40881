/** Promise 6: play. */
public final class Promise06PlayTest {
    private static final Due due = new Due("promise 6");

    public static void main(String[] args) {
        theLeastNumberIsOpened();
        fromAboveTo();
        bothEndsBelongToIt();
        anyTimes();
        laterPacketsAreInIt();
        badStore();
        badPriority();
        full();
        due.end();
    }

    private static void theLeastNumberIsOpened() {
        due.says("Opens the playback with the least number that is not open");
        ScrubbedRecorder x = Rig.withStore(true, 3);
        due.says("Answers the number. BAD when the store is not made, or prio");
        for (int p = 0; p < 4; p++) {
            due.is("play", x.play(0, 0, 1, 9 - p), p);
        }
        due.says("Opens the playback with the least number that is not open");
        x.stop(2);
        x.stop(1);
        due.is("the least", x.play(0, 0, 1, 0), 1);
        due.is("the next", x.play(0, 0, 1, 0), 2);
        x.stop(3);
        due.is("the last", x.play(0, 0, 1, 0), 3);
        x.stop(0);
        due.is("the first", x.play(0, 0, 1, 0), 0);
    }

    private static void fromAboveTo() {
        due.says("(from may be above to: then no packet is in it)");
        ScrubbedRecorder x = Rig.withPackets(true, 3, 5, 0);
        due.is("by one", x.play(0, 3, 2, 0), 0);
        due.is("by all", x.play(0, Integer.MAX_VALUE, Integer.MIN_VALUE, 0), 1);
        x.gap(0, 3);
        due.is("no packet is in them", x.frame(), ScrubbedRecorder.NONE);
        due.is("not even one that is asked for", x.count(0, 5), 1);
        due.yes("but it is open", x.stop(0));
        due.yes("and so is the other", x.stop(1));
    }

    private static void bothEndsBelongToIt() {
        due.says("(from may be above to: then no packet is in it)");
        ScrubbedRecorder x = Rig.withPackets(true, 3, 5, 0);
        x.play(0, 1, 2, 0);
        int[] want = {1, 2, 1};
        for (int position : want) {
            due.is("times 1 to 2", Rig.nextSent(x), position);
        }
        x.play(0, 3, 3, 0);
        x.stop(0);
        due.is("time 3", Rig.nextSent(x), 3);
        due.is("time 3 again", Rig.nextSent(x), 3);
    }

    private static void anyTimes() {
        due.says("Opens the playback with the least number that is not open");
        ScrubbedRecorder x = Rig.withStore(true, 3);
        x.record(0, 1, 0, 0);
        x.record(0, 1, Integer.MAX_VALUE, 0);
        x.play(0, Integer.MIN_VALUE, Integer.MAX_VALUE, 0);
        due.is("time 0", Rig.nextSent(x), 0);
        due.is("the greatest time", Rig.nextSent(x), 1);
        x.play(0, Integer.MIN_VALUE, -1, 1);
        x.stop(0);
        due.is("before all times", x.frame(), ScrubbedRecorder.NONE);
    }

    private static void laterPacketsAreInIt() {
        due.says("Opens the playback with the least number that is not open");
        ScrubbedRecorder x = Rig.withStore(true, 3);
        due.is("a store without packets", x.play(0, 0, 2, 0), 0);
        due.is("frame", x.frame(), ScrubbedRecorder.NONE);
        Rig.recordMore(x, 0, 4, 0);
        int[] want = {0, 1, 2, 0};
        for (int position : want) {
            due.is("recorded later", Rig.nextSent(x), position);
        }
    }

    private static void badStore() {
        due.says("BAD when the store is not made, or prio is not 0 .. 9");
        ScrubbedRecorder x = Rig.withStore(true, 3);
        int[] wrong = {-1, 1, 2, 3, 4, Integer.MIN_VALUE, Integer.MAX_VALUE};
        for (int k : wrong) {
            due.is("store " + k, x.play(k, 0, 1, 0), ScrubbedRecorder.BAD);
        }
        due.no("nothing was opened", x.stop(0));
        x.dropStore(0);
        due.is("dropped", x.play(0, 0, 1, 0), ScrubbedRecorder.BAD);
    }

    private static void badPriority() {
        due.says("BAD when the store is not made, or prio is not 0 .. 9");
        ScrubbedRecorder x = Rig.withStore(true, 3);
        int[] wrong = {-1, 10, Integer.MIN_VALUE, Integer.MAX_VALUE};
        for (int prio : wrong) {
            due.is("prio " + prio, x.play(0, 0, 1, prio), ScrubbedRecorder.BAD);
        }
        due.no("nothing was opened", x.stop(0));
        for (int prio = 0; prio < 10; prio++) {
            due.is("prio " + prio, x.play(0, 0, 1, prio), 0);
            x.stop(0);
        }
    }

    private static void full() {
        due.says("FULL when all are open.");
        ScrubbedRecorder x = Rig.withPackets(true, 3, 2, 0);
        for (int p = 0; p < 4; p++) {
            x.play(0, 0, p, 5);
        }
        due.is("a fifth", x.play(0, 1, 1, 0), ScrubbedRecorder.FULL);
        due.is("it does not send", Rig.nextSent(x), 0);
        x.stop(3);
        due.is("one is not open", x.play(0, 1, 1, 0), 3);
        due.is("that sends", Rig.nextSent(x), 1);
        due.is("full again", x.play(0, 1, 1, 0), ScrubbedRecorder.FULL);
    }
}

/** Promise 20: reset. */
public final class Promise20ResetTest {
    private static final Due due = new Due("promise 20");

    public static void main(String[] args) {
        confirmedAsSaved();
        nothingIsUnderWay();
        scrubbingBeginsAnew();
        clocksGoBack();
        allElseStays();
        itIsNotASave();
        due.end();
    }

    private static void confirmedAsSaved() {
        ScrubbedRecorder x = new ScrubbedRecorder();
        x.makeStore(0, true, 5);
        x.makeStore(1, false, 5);
        for (int n = 0; n < 4; n++) {
            x.record(0, n, n, 0);
            x.record(1, n, n, 44);
        }
        x.confirm(0, 1, 2);
        x.confirm(1, 2, 2);
        x.checkpoint(100);
        x.confirm(0, 0, 0);
        x.confirm(1, 1, 1);
        x.record(0, 4, 4, 0);
        x.confirm(0, 4, 4);
        x.reset();
        due.is("store 0", x.count(0, 1), 2);
        due.no("packet 1 is confirmed", x.gap(0, 1));
        due.no("packet 2 is confirmed", x.gap(0, 2));
        due.yes("packet 0 was confirmed later", x.gap(0, 0));
        due.yes("packet 4 was recorded later", x.gap(0, 4));
        due.is("store 1", x.count(1, 1), 1);
        due.is("pages stay", x.count(1, 3), 4);
        due.is("both are new again", x.confirm(1, 0, 1), 2);
        due.is("three pages are done", x.count(1, 3), 1);
    }

    private static void nothingIsUnderWay() {
        ScrubbedRecorder x = new ScrubbedRecorder();
        x.makeStore(0, true, 5);
        x.record(0, 1, 1, 0);
        x.record(0, 1, 1, 0);
        x.play(0, 0, 9, 0);
        x.play(0, 0, 9, 0);
        x.frame();
        x.gap(0, 0);
        x.reset();
        due.is("none is asked for", x.count(0, 5), 0);
        due.is("no playback sends", x.frame(), ScrubbedRecorder.NONE);
        due.is("there is no frame", x.frameByte(0), ScrubbedRecorder.NONE);
        due.no("no playback is open", x.stop(0));
        due.no("no playback is open", x.stop(1));
        due.is("the first is opened", x.play(0, 0, 9, 0), 0);
        x.frame();
        due.is("it begins at the least position", x.frameByte(4), 0);
    }

    private static void scrubbingBeginsAnew() {
        ScrubbedRecorder x = new ScrubbedRecorder();
        x.tick(10);
        x.flip(0, 0, 0);
        x.reset();
        due.is("word 0 of module 0", x.tick(1), 1);
        x.reset();
        due.is("corrected in all, reset or not", x.told(0), 1);
    }

    private static void clocksGoBack() {
        ScrubbedRecorder x = new ScrubbedRecorder();
        x.makeStore(0, false, 5);
        x.makeStore(1, true, 5);
        x.makeStore(2, true, 5);
        x.record(0, 1, 50, 40);
        x.record(0, 1, 60, 0);
        x.record(1, 1, 70, 0);
        x.record(1, 1, 80, 0);
        // Packet 1 begins in the first page, so nothing is kept when both are confirmed.
        x.confirm(0, 0, 1);
        due.is("the clock stays before", x.count(0, 4), 60);
        x.reset();
        due.is("without any kept", x.count(0, 4), 0);
        due.is("of the latest kept", x.count(1, 4), 80);
        due.is("of an empty store", x.count(2, 4), 0);
        due.is("times may begin anew", x.record(0, 1, 0, 0), 2);
        due.is("not where one is kept", x.record(1, 1, 79, 0), ScrubbedRecorder.BAD);
    }

    private static void allElseStays() {
        ScrubbedRecorder x = new ScrubbedRecorder();
        x.makeStore(0, true, 5);
        x.put(0, 77L);
        x.record(0, 1, 1, 1);
        x.latch(1);
        x.power(1);
        x.tick(0);
        x.flip(3, 3, 3);
        x.reset();
        due.is("kept", x.count(0, 0), 1);
        due.is("next position", x.count(0, 2), 1);
        due.is("pages", x.count(0, 3), 1);
        due.is("quotas", x.makeStore(1, true, 3), 32);
        due.is("blank rows", x.told(3), 7);
        due.is("flipped words", x.told(4), 1);
        due.is("free pages", x.told(2), 39);
        due.is("record", x.record(0, 1, 1, 1), 1);
        due.is("the buffer", x.packetByte(0, 1, 6), 77);
        due.is("it goes on in the same page", x.count(0, 3), 1);
        x.latch(5);
        x.reset();
        x.tick(0);
        due.is("still blank: it was refused", x.told(3), 6);
    }

    private static void itIsNotASave() {
        ScrubbedRecorder x = new ScrubbedRecorder();
        x.makeStore(0, true, 5);
        x.record(0, 1, 1, 1);
        x.record(0, 1, 1, 1);
        x.confirm(0, 0, 0);
        x.checkpoint(8);
        x.reset();
        x.confirm(0, 1, 1);
        x.reset();
        due.is("as saved before the first reset", x.count(0, 1), 1);
        due.no("it is packet 0", x.gap(0, 0));
    }
}

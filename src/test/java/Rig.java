/** Ways to bring a recorder into a state, and to look at it, that several tests use. */
final class Rig {
    /** The module of each page, by rows: the document's rule written out. */
    static final int[][] MODULES_OF_PAGES = {
        {1, 2, 3, 4, 5}, {0, 2, 3, 4, 5}, {0, 1, 3, 4, 5}, {0, 1, 2, 4, 5},
        {0, 1, 2, 3, 5}, {0, 1, 2, 3, 4}, {1, 2, 3, 4, 5}, {0, 2, 3, 4, 5},
    };
    /** A packet of 44 bytes takes 13 words: all that a page has for packets. */
    static final int PAGE = 44;

    private Rig() {
    }

    static ScrubbedRecorder withStore(boolean circular, int pages) {
        ScrubbedRecorder x = new ScrubbedRecorder();
        x.makeStore(0, circular, pages);
        return x;
    }

    /** Packets with their number as source and time, of so many bytes. */
    static ScrubbedRecorder withPackets(boolean circular, int pages, int packets, int len) {
        ScrubbedRecorder x = withStore(circular, pages);
        recordMore(x, 0, packets, len);
        return x;
    }

    static void recordMore(ScrubbedRecorder x, int k, int packets, int len) {
        for (int n = 0; n < packets; n++) {
            int position = x.count(k, 2);
            x.record(k, position, position, len);
        }
    }

    static void flipTwo(ScrubbedRecorder x, int module, int word) {
        x.flip(module, word, 0);
        x.flip(module, word, 1);
    }

    static void rebuild(ScrubbedRecorder x, int rows) {
        for (int row = 0; row < rows; row++) {
            x.tick(0);
        }
    }

    /** How many words of each module have flipped bits. It resets x, and makes the words sound. */
    static int[] flippedByModule(ScrubbedRecorder x) {
        x.reset();
        int[] flipped = new int[6];
        for (int module = 0; module < 6; module++) {
            flipped[module] = x.tick(128);
        }
        return flipped;
    }

    /** The position that the next frame shows, or NONE when there is no next one. */
    static int nextSent(ScrubbedRecorder x) {
        return x.frame() == ScrubbedRecorder.NONE ? ScrubbedRecorder.NONE : x.frameByte(4);
    }
}

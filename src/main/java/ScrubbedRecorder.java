import java.util.ArrayList;

/**
 * A packet recorder on six memory modules. The limits that flip and latch keep make every word
 * recoverable at all times, so the packets are held plainly here, and of the memory only what
 * can be told from outside: the flipped bits, the module that is lost, and whose each page is.
 */
public final class ScrubbedRecorder {
    public static final int NONE = -1;
    public static final int BAD = -2;
    public static final int TAKEN = -3;
    public static final int FULL = -4;

    private static final int STORES = 4;
    private static final int LEAST_QUOTA = 3;
    private static final int PLAYBACKS = 4;
    private static final int MOST_PRIORITY = 9;
    private static final int MOST_SOURCE = 255;
    private static final int MOST_BYTES = 60;
    private static final int LONG_BYTES = 8;
    private static final int INT_BYTES = 4;
    private static final int BYTE_BITS = 8;
    private static final int BYTE_MASK = 0xFF;
    private static final int MOST_TICK_WORDS = 1000;
    private static final int SAVE_WORDS = 6;
    private static final int RUN_WORDS = 2;

    private static final int MODULES = 6;
    private static final int ROWS = 8;
    private static final int PAGE_WORDS = 16;
    private static final int MODULE_WORDS = ROWS * PAGE_WORDS;
    private static final int ALL_WORDS = MODULES * MODULE_WORDS;
    private static final int WORD_BITS = 39;
    private static final int ROW_PAGES = MODULES - 1;
    private static final int PAGES = ROWS * ROW_PAGES;
    private static final int FIRST_PACKET_WORD = 3;
    private static final int PAGE_PACKET_WORDS = PAGE_WORDS - FIRST_PACKET_WORD;

    private final Memory memory;
    private final Store[] stores;
    private final Playback[] playbacks;
    private final byte[] buffer;
    private Packet framed;
    private long turns;

    public ScrubbedRecorder() {
        memory = new Memory();
        stores = new Store[STORES];
        playbacks = new Playback[PLAYBACKS];
        buffer = new byte[MOST_BYTES];
    }

    public int makeStore(int k, boolean circular, int pages) {
        if (k < 0 || k >= STORES || pages < LEAST_QUOTA || pages > PAGES) {
            return BAD;
        }
        if (stores[k] != null) {
            return TAKEN;
        }
        if (pages > unpromisedPages()) {
            return FULL;
        }
        stores[k] = new Store(k, circular, pages, memory);
        saveAll();
        return unpromisedPages();
    }

    public boolean dropStore(int k) {
        Store store = madeStore(k);
        if (store == null) {
            return false;
        }
        store.freeAllPages();
        closePlaybacksOf(store);
        stores[k] = null;
        saveAll();
        return true;
    }

    public boolean put(int i, long v) {
        if (i < 0 || i >= MOST_BYTES) {
            return false;
        }
        int end = Math.min(i + LONG_BYTES, MOST_BYTES);
        for (int at = i; at < end; at++) {
            buffer[at] = (byte) (v >> (BYTE_BITS * (at - i)));
        }
        return true;
    }

    public int record(int k, int source, int time, int len) {
        Store store = madeStore(k);
        if (store == null || source < 0 || source > MOST_SOURCE) {
            return BAD;
        }
        if (len < 0 || len > MOST_BYTES || time < store.clock) {
            return BAD;
        }
        if (!store.hasRoomFor(len)) {
            return FULL;
        }
        int position = store.append(source, time, buffer, len);
        store.prune();
        return position;
    }

    public int play(int k, int from, int to, int prio) {
        Store store = madeStore(k);
        if (store == null || prio < 0 || prio > MOST_PRIORITY) {
            return BAD;
        }
        for (int p = 0; p < PLAYBACKS; p++) {
            if (playbacks[p] == null) {
                playbacks[p] = new Playback(store, from, to, prio, nextTurn());
                return p;
            }
        }
        return FULL;
    }

    public boolean stop(int p) {
        if (p < 0 || p >= PLAYBACKS || playbacks[p] == null) {
            return false;
        }
        playbacks[p] = null;
        return true;
    }

    public int frame() {
        Playback sender = null;
        Packet packet = null;
        for (int p = 0; p < PLAYBACKS; p++) {
            Playback playback = playbacks[p];
            if (playback == null || (sender != null && !playback.goesBefore(sender))) {
                continue;
            }
            Packet candidate = playback.nextPacket();
            if (candidate != null) {
                sender = playback;
                packet = candidate;
            }
        }
        if (sender == null || packet == null) {
            return NONE;
        }
        sender.sent = packet.position;
        packet.askedTurn = Packet.NOT_ASKED;
        framed = packet;
        return packet.frameLength();
    }

    public int frameByte(int i) {
        return framed == null ? NONE : framed.byteOfFrame(i);
    }

    public int confirm(int k, int from, int to) {
        Store store = madeStore(k);
        if (store == null || from > to) {
            return BAD;
        }
        int confirmed = store.confirmPackets(from, to);
        store.prune();
        return confirmed;
    }

    public boolean gap(int k, int position) {
        Packet packet = keptPacket(k, position);
        if (packet == null || packet.confirmed || packet.isAskedFor()) {
            return false;
        }
        packet.askedTurn = nextTurn();
        return true;
    }

    public int count(int k, int what) {
        Store store = madeStore(k);
        if (store == null) {
            return BAD;
        }
        switch (what) {
            case 0:
                return store.kept.size();
            case 1:
                return store.countConfirmed();
            case 2:
                return store.next;
            case 3:
                return store.chainLength;
            case 4:
                return store.clock;
            case 5:
                return store.countAskedFor();
            default:
                return BAD;
        }
    }

    public int packetByte(int k, int position, int i) {
        Packet packet = keptPacket(k, position);
        return packet == null ? NONE : packet.byteThatTells(i);
    }

    public int seek(int k, int time) {
        Store store = madeStore(k);
        return store == null ? NONE : store.leastPositionSince(time);
    }

    public int tick(int words) {
        if (words < 0 || words > MOST_TICK_WORDS) {
            return BAD;
        }
        memory.rebuildRow();
        return memory.scrub(words);
    }

    public boolean flip(int module, int word, int bit) {
        return memory.flipBit(module, word, bit);
    }

    public boolean latch(int module) {
        return memory.switchOff(module);
    }

    public boolean power(int module) {
        return memory.switchOn(module);
    }

    public int checkpoint(int words) {
        if (words < 0) {
            return BAD;
        }
        int needed = SAVE_WORDS + RUN_WORDS * countRuns();
        if (words >= needed) {
            saveAll();
        }
        return needed;
    }

    public void reset() {
        for (int k = 0; k < STORES; k++) {
            if (stores[k] != null) {
                stores[k].restore();
            }
        }
        for (int p = 0; p < PLAYBACKS; p++) {
            playbacks[p] = null;
        }
        framed = null;
        memory.scrubFromStart();
    }

    public int told(int what) {
        switch (what) {
            case 0:
                return memory.corrected;
            case 1:
                return memory.mended;
            case 2:
                return memory.countFreePages();
            case 3:
                return memory.countLostRows();
            case 4:
                return memory.countFlippedWords();
            default:
                return BAD;
        }
    }

    private Store madeStore(int k) {
        return k < 0 || k >= STORES ? null : stores[k];
    }

    private Packet keptPacket(int k, int position) {
        Store store = madeStore(k);
        return store == null ? null : store.keptAt(position);
    }

    private int unpromisedPages() {
        int unpromised = PAGES;
        for (int k = 0; k < STORES; k++) {
            if (stores[k] != null) {
                unpromised -= stores[k].quota;
            }
        }
        return unpromised;
    }

    private void closePlaybacksOf(Store store) {
        for (int p = 0; p < PLAYBACKS; p++) {
            Playback playback = playbacks[p];
            if (playback != null && playback.store == store) {
                playbacks[p] = null;
            }
        }
    }

    private void saveAll() {
        for (int k = 0; k < STORES; k++) {
            if (stores[k] != null) {
                stores[k].save();
            }
        }
    }

    private int countRuns() {
        int runs = 0;
        for (int k = 0; k < STORES; k++) {
            if (stores[k] != null) {
                runs += stores[k].countConfirmedRuns();
            }
        }
        return runs;
    }

    /** One counter orders both what is asked for and what is opened: only who was first matters. */
    private long nextTurn() {
        turns++;
        return turns;
    }

    /** The byte of a number's four, the highest first. */
    private static int byteOfFour(int number, int i) {
        return (number >>> (BYTE_BITS * (INT_BYTES - 1 - i))) & BYTE_MASK;
    }

    /**
     * The flipped bits, what is missing, and which pages are in a chain. Only one module can be
     * lost (off, or blank in some rows) at a time, and its rows are rebuilt from the first on, so
     * its missing rows are always those from some row to the last.
     */
    private static final class Memory {
        private final long[] flipped = new long[ALL_WORDS];
        private final boolean[] inChain = new boolean[PAGES];
        private int lostModule = NONE;
        private boolean lostIsOff;
        private int firstLostRow;
        private int scrubNext;
        int corrected;
        int mended;

        boolean flipBit(int module, int word, int bit) {
            if (!isModule(module) || word < 0 || word >= MODULE_WORDS) {
                return false;
            }
            if (bit < 0 || bit >= WORD_BITS || isMissing(module, word)) {
                return false;
            }
            int at = module * MODULE_WORDS + word;
            long bits = flipped[at] ^ (1L << bit);
            int flips = Long.bitCount(bits);
            if (flips > 2 || (flips == 2 && !othersCanMend(module, word))) {
                return false;
            }
            flipped[at] = bits;
            return true;
        }

        boolean switchOff(int module) {
            if (!isModule(module) || lostModule != NONE || othersHaveTwoFlips(module)) {
                return false;
            }
            lostModule = module;
            lostIsOff = true;
            firstLostRow = 0;
            // A word that becomes missing has no flipped bits, nor later when it is there again.
            int start = module * MODULE_WORDS;
            for (int word = 0; word < MODULE_WORDS; word++) {
                flipped[start + word] = 0;
            }
            return true;
        }

        boolean switchOn(int module) {
            if (!isModule(module) || module != lostModule || !lostIsOff) {
                return false;
            }
            lostIsOff = false;
            return true;
        }

        void rebuildRow() {
            if (lostModule == NONE || lostIsOff) {
                return;
            }
            firstLostRow++;
            if (firstLostRow == ROWS) {
                lostModule = NONE;
            }
        }

        int scrub(int words) {
            int before = corrected + mended;
            for (int n = 0; n < words; n++) {
                scrubWord(scrubNext);
                scrubNext = (scrubNext + 1) % ALL_WORDS;
            }
            return corrected + mended - before;
        }

        void scrubFromStart() {
            scrubNext = 0;
        }

        /** The parity is made anew from what is written, so its word is sound again, too. */
        void writeWord(int page, int word) {
            int row = page / ROW_PAGES;
            int parityModule = row % MODULES;
            int place = page % ROW_PAGES;
            int module = place < parityModule ? place : place + 1;
            int wordOfModule = row * PAGE_WORDS + word;
            flipped[module * MODULE_WORDS + wordOfModule] = 0;
            flipped[parityModule * MODULE_WORDS + wordOfModule] = 0;
        }

        /** The quotas together promise no more than all pages, so one is always free here. */
        int openLeastPage() {
            int page = 0;
            while (page < PAGES - 1 && inChain[page]) {
                page++;
            }
            inChain[page] = true;
            for (int word = 0; word < PAGE_WORDS; word++) {
                writeWord(page, word);
            }
            return page;
        }

        void freePage(int page) {
            inChain[page] = false;
            writeWord(page, 0);
        }

        int countFreePages() {
            int free = 0;
            for (int page = 0; page < PAGES; page++) {
                if (!inChain[page]) {
                    free++;
                }
            }
            return free;
        }

        int countLostRows() {
            return lostModule == NONE ? 0 : ROWS - firstLostRow;
        }

        int countFlippedWords() {
            int words = 0;
            for (int at = 0; at < ALL_WORDS; at++) {
                if (flipped[at] != 0) {
                    words++;
                }
            }
            return words;
        }

        /** A missing word never has flipped bits, so scrubbing need not ask whether it is. */
        private void scrubWord(int at) {
            int flips = Long.bitCount(flipped[at]);
            if (flips == 1) {
                corrected++;
            } else if (flips == 2) {
                mended++;
            }
            flipped[at] = 0;
        }

        private boolean isMissing(int module, int word) {
            return module == lostModule && word / PAGE_WORDS >= firstLostRow;
        }

        private boolean othersCanMend(int module, int word) {
            for (int other = 0; other < MODULES; other++) {
                if (other != module && (isMissing(other, word) || hasTwoFlips(other, word))) {
                    return false;
                }
            }
            return true;
        }

        private boolean othersHaveTwoFlips(int module) {
            for (int other = 0; other < MODULES; other++) {
                for (int word = 0; word < MODULE_WORDS; word++) {
                    if (other != module && hasTwoFlips(other, word)) {
                        return true;
                    }
                }
            }
            return false;
        }

        private boolean hasTwoFlips(int module, int word) {
            return Long.bitCount(flipped[module * MODULE_WORDS + word]) == 2;
        }

        private static boolean isModule(int module) {
            return module >= 0 && module < MODULES;
        }
    }

    /**
     * A store that is made; the face has null for one that is not. Packets leave only from the
     * front, page by page, so the kept ones always have the last positions below the next one,
     * without a gap.
     */
    private static final class Store {
        private final int number;
        private final boolean circular;
        private final Memory memory;
        private final int[] chain = new int[PAGES];
        private int nextWord = PAGE_WORDS;
        final ArrayList<Packet> kept = new ArrayList<>();
        final int quota;
        int chainLength;
        int next;
        int clock;

        Store(int number, boolean circular, int quota, Memory memory) {
            this.number = number;
            this.circular = circular;
            this.quota = quota;
            this.memory = memory;
        }

        boolean hasRoomFor(int len) {
            if (circular) {
                return true;
            }
            int wordsBeyond = Packet.wordsFor(len) - (PAGE_WORDS - nextWord);
            int opened = (Math.max(wordsBeyond, 0) + PAGE_PACKET_WORDS - 1) / PAGE_PACKET_WORDS;
            return chainLength + opened <= quota;
        }

        int append(int source, int time, byte[] bytes, int len) {
            Packet packet = new Packet(number, next, source, time, bytes, len);
            int words = Packet.wordsFor(len);
            for (int n = 0; n < words; n++) {
                if (nextWord == PAGE_WORDS) {
                    openPage();
                }
                int lastPage = chain[chainLength - 1];
                if (n == 0) {
                    packet.firstPage = lastPage;
                }
                memory.writeWord(lastPage, nextWord);
                nextWord++;
            }
            kept.add(packet);
            next++;
            clock = time;
            return packet.position;
        }

        void prune() {
            if (circular) {
                return;
            }
            for (int length = chainLength; length > 1 && isFirstPageDone(); length--) {
                freeFirstPage();
            }
        }

        void freeAllPages() {
            for (int length = chainLength; length > 0; length--) {
                freeFirstPage();
            }
        }

        int confirmPackets(int from, int to) {
            int confirmed = 0;
            for (int n = 0; n < kept.size(); n++) {
                Packet packet = kept.get(n);
                if (packet.position >= from && packet.position <= to && !packet.confirmed) {
                    packet.confirmed = true;
                    packet.askedTurn = Packet.NOT_ASKED;
                    confirmed++;
                }
            }
            return confirmed;
        }

        Packet keptAt(int position) {
            int first = next - kept.size();
            return position < first || position >= next ? null : kept.get(position - first);
        }

        int leastPositionSince(int time) {
            for (int n = 0; n < kept.size(); n++) {
                Packet packet = kept.get(n);
                if (packet.time >= time) {
                    return packet.position;
                }
            }
            return NONE;
        }

        int countConfirmed() {
            int confirmed = 0;
            for (int n = 0; n < kept.size(); n++) {
                if (kept.get(n).confirmed) {
                    confirmed++;
                }
            }
            return confirmed;
        }

        int countConfirmedRuns() {
            int runs = 0;
            boolean inRun = false;
            for (int n = 0; n < kept.size(); n++) {
                boolean confirmed = kept.get(n).confirmed;
                if (confirmed && !inRun) {
                    runs++;
                }
                inRun = confirmed;
            }
            return runs;
        }

        int countAskedFor() {
            int asked = 0;
            for (int n = 0; n < kept.size(); n++) {
                if (kept.get(n).isAskedFor()) {
                    asked++;
                }
            }
            return asked;
        }

        void save() {
            for (int n = 0; n < kept.size(); n++) {
                Packet packet = kept.get(n);
                packet.savedAsConfirmed = packet.confirmed;
            }
        }

        void restore() {
            clock = 0;
            for (int n = 0; n < kept.size(); n++) {
                Packet packet = kept.get(n);
                packet.confirmed = packet.savedAsConfirmed;
                packet.askedTurn = Packet.NOT_ASKED;
                clock = packet.time;
            }
        }

        private void openPage() {
            if (circular && chainLength == quota) {
                freeFirstPage();
            }
            chain[chainLength] = memory.openLeastPage();
            chainLength++;
            nextWord = FIRST_PACKET_WORD;
        }

        /** What runs on into the first page from a freed one is kept no more: it does not count. */
        private boolean isFirstPageDone() {
            for (int n = 0; n < kept.size() && kept.get(n).firstPage == chain[0]; n++) {
                if (!kept.get(n).confirmed) {
                    return false;
                }
            }
            return true;
        }

        private void freeFirstPage() {
            int page = chain[0];
            memory.freePage(page);
            chainLength--;
            System.arraycopy(chain, 1, chain, 0, chainLength);
            for (int n = kept.size(); n > 0 && kept.get(0).firstPage == page; n--) {
                kept.remove(0);
            }
        }
    }

    /** What a packet tells never changes, so that the frame can go on showing one that is gone. */
    private static final class Packet {
        static final long NOT_ASKED = 0;
        private static final int HEAD_WORDS = 2;
        private static final int BYTES_PER_WORD = 4;
        private static final int HEAD_BYTES = 2 + INT_BYTES;
        private static final int FRAME_HEAD_BYTES = 1 + INT_BYTES;

        private final int store;
        private final byte[] telling;
        final int position;
        final int time;
        int firstPage = NONE;
        boolean confirmed;
        boolean savedAsConfirmed;
        long askedTurn = NOT_ASKED;

        Packet(int store, int position, int source, int time, byte[] bytes, int len) {
            this.store = store;
            this.position = position;
            this.time = time;
            telling = new byte[HEAD_BYTES + len];
            telling[0] = (byte) source;
            for (int i = 0; i < INT_BYTES; i++) {
                telling[1 + i] = (byte) byteOfFour(time, i);
            }
            telling[HEAD_BYTES - 1] = (byte) len;
            System.arraycopy(bytes, 0, telling, HEAD_BYTES, len);
        }

        static int wordsFor(int len) {
            return HEAD_WORDS + (len + BYTES_PER_WORD - 1) / BYTES_PER_WORD;
        }

        boolean isAskedFor() {
            return askedTurn != NOT_ASKED;
        }

        int frameLength() {
            return FRAME_HEAD_BYTES + telling.length;
        }

        int byteThatTells(int i) {
            return i < 0 || i >= telling.length ? NONE : telling[i] & BYTE_MASK;
        }

        int byteOfFrame(int i) {
            if (i < 0) {
                return NONE;
            }
            if (i == 0) {
                return store;
            }
            if (i < FRAME_HEAD_BYTES) {
                return byteOfFour(position, i - 1);
            }
            return byteThatTells(i - FRAME_HEAD_BYTES);
        }
    }

    /** A playback that is open; the face has null for one that is not. */
    private static final class Playback {
        private final int from;
        private final int to;
        private final int priority;
        private final long openedTurn;
        final Store store;
        int sent = NONE;

        Playback(Store store, int from, int to, int priority, long openedTurn) {
            this.store = store;
            this.from = from;
            this.to = to;
            this.priority = priority;
            this.openedTurn = openedTurn;
        }

        boolean goesBefore(Playback other) {
            if (priority != other.priority) {
                return priority < other.priority;
            }
            return openedTurn < other.openedTurn;
        }

        Packet nextPacket() {
            Packet asked = null;
            Packet above = null;
            Packet least = null;
            for (int n = 0; n < store.kept.size(); n++) {
                Packet packet = store.kept.get(n);
                if (!hasIn(packet)) {
                    continue;
                }
                if (packet.isAskedFor() && (asked == null || packet.askedTurn < asked.askedTurn)) {
                    asked = packet;
                }
                if (above == null && packet.position > sent) {
                    above = packet;
                }
                if (least == null) {
                    least = packet;
                }
            }
            if (asked != null) {
                return asked;
            }
            return above != null ? above : least;
        }

        private boolean hasIn(Packet packet) {
            return !packet.confirmed && packet.time >= from && packet.time <= to;
        }
    }
}

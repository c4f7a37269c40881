import java.util.ArrayList;
import java.util.HashSet;
import java.util.List;
import java.util.Set;

/**
 * The document once more, as literally as can be and without a thought for speed: single bits,
 * words that know their packet, sets and rows of everything. RandomRunsTest holds the class
 * against it.
 */
final class PlainModel {
    static final int NONE = -1;
    static final int BAD = -2;
    static final int TAKEN = -3;
    static final int FULL = -4;

    /** A page while it is in a chain: a page that is opened again is another one of these. */
    private static final class Opened {
        final int page;
        final Object[] words = new Object[16];

        Opened(int page) {
            this.page = page;
        }
    }

    private static final class Parcel {
        final int position;
        final List<Integer> bytes = new ArrayList<>();
        final int time;
        Opened begin;
        boolean confirmed;

        Parcel(int position, int time) {
            this.position = position;
            this.time = time;
        }
    }

    private static final class Depot {
        boolean circular;
        int quota;
        final List<Opened> chain = new ArrayList<>();
        final List<Parcel> all = new ArrayList<>();
        int clock;

        List<Parcel> kept() {
            List<Parcel> kept = new ArrayList<>();
            for (Parcel parcel : all) {
                if (chain.contains(parcel.begin)) {
                    kept.add(parcel);
                }
            }
            return kept;
        }
    }

    private static final class Playing {
        final int number;
        final Depot depot;
        final int k;
        final int from;
        final int to;
        final int priority;
        int sent = -1;

        Playing(int number, int k, Depot depot, int from, int to, int priority) {
            this.number = number;
            this.k = k;
            this.depot = depot;
            this.from = from;
            this.to = to;
            this.priority = priority;
        }

        List<Parcel> in() {
            List<Parcel> in = new ArrayList<>();
            for (Parcel parcel : depot.kept()) {
                if (!parcel.confirmed && parcel.time >= from && parcel.time <= to) {
                    in.add(parcel);
                }
            }
            return in;
        }
    }

    private final boolean[][][] bits = new boolean[6][128][39];
    private final boolean[] off = new boolean[6];
    private final boolean[][] blank = new boolean[6][8];
    private final Depot[] depots = new Depot[4];
    private final List<Playing> playing = new ArrayList<>();
    private final List<Parcel> asked = new ArrayList<>();
    private Set<Parcel> saved = new HashSet<>();
    private List<Integer> frame = null;
    private final int[] buffer = new int[60];
    private int scrubModule = 0;
    private int scrubWord = 0;
    private int corrected = 0;
    private int mended = 0;

    private int moduleOf(int page) {
        int row = page / 5;
        int number = 5 * row;
        for (int module = 0; module < 6; module++) {
            if (module == row % 6) {
                continue;
            }
            if (number == page) {
                return module;
            }
            number++;
        }
        throw new IllegalStateException();
    }

    private int flips(int module, int word) {
        int flips = 0;
        for (boolean bit : bits[module][word]) {
            flips += bit ? 1 : 0;
        }
        return flips;
    }

    private boolean missing(int module, int word) {
        return off[module] || blank[module][word / 16];
    }

    private void write(int page, int word) {
        int row = page / 5;
        bits[moduleOf(page)][16 * row + word] = new boolean[39];
        bits[row % 6][16 * row + word] = new boolean[39];
    }

    private Depot depot(int k) {
        return k >= 0 && k <= 3 ? depots[k] : null;
    }

    private int promisedToNone() {
        int pages = 40;
        for (Depot depot : depots) {
            pages -= depot == null ? 0 : depot.quota;
        }
        return pages;
    }

    private boolean isFree(int page) {
        for (Depot depot : depots) {
            if (depot != null) {
                for (Opened opened : depot.chain) {
                    if (opened.page == page) {
                        return false;
                    }
                }
            }
        }
        return true;
    }

    private void freeFirst(Depot depot) {
        List<Parcel> before = depot.kept();
        Opened first = depot.chain.remove(0);
        before.removeAll(depot.kept());
        asked.removeAll(before);
        write(first.page, 0);
    }

    private void open(Depot depot) {
        int page = 0;
        while (!isFree(page)) {
            page++;
        }
        depot.chain.add(new Opened(page));
        for (int word = 0; word < 16; word++) {
            write(page, word);
        }
    }

    private int nextWord(Depot depot) {
        if (depot.chain.isEmpty()) {
            return 16;
        }
        Opened last = depot.chain.get(depot.chain.size() - 1);
        int word = 3;
        while (word < 16 && last.words[word] != null) {
            word++;
        }
        return word;
    }

    private void prune(Depot depot) {
        if (depot.circular) {
            return;
        }
        while (depot.chain.size() >= 2) {
            Opened first = depot.chain.get(0);
            List<Parcel> kept = depot.kept();
            for (Object parcel : first.words) {
                if (parcel != null && kept.contains(parcel) && !((Parcel) parcel).confirmed) {
                    return;
                }
            }
            freeFirst(depot);
        }
    }

    private void save() {
        saved = new HashSet<>();
        for (Depot depot : depots) {
            if (depot != null) {
                for (Parcel parcel : depot.kept()) {
                    if (parcel.confirmed) {
                        saved.add(parcel);
                    }
                }
            }
        }
    }

    int makeStore(int k, boolean circular, int pages) {
        if (k < 0 || k > 3 || pages < 3 || pages > 40) {
            return BAD;
        }
        if (depots[k] != null) {
            return TAKEN;
        }
        if (pages > promisedToNone()) {
            return FULL;
        }
        depots[k] = new Depot();
        depots[k].circular = circular;
        depots[k].quota = pages;
        save();
        return promisedToNone();
    }

    boolean dropStore(int k) {
        Depot depot = depot(k);
        if (depot == null) {
            return false;
        }
        while (!depot.chain.isEmpty()) {
            freeFirst(depot);
        }
        playing.removeIf(one -> one.k == k);
        depots[k] = null;
        save();
        return true;
    }

    boolean put(int i, long v) {
        if (i < 0 || i > 59) {
            return false;
        }
        for (int n = 0; n < 8; n++) {
            if (i + n <= 59) {
                buffer[i + n] = (int) (v & 255);
            }
            v >>>= 8;
        }
        return true;
    }

    int record(int k, int source, int time, int len) {
        Depot depot = depot(k);
        if (depot == null || source < 0 || source > 255 || len < 0 || len > 60 || time < depot.clock) {
            return BAD;
        }
        int words = 2;
        for (int n = 0; n < len; n += 4) {
            words++;
        }
        int pages = depot.chain.size();
        int left = 16 - nextWord(depot);
        while (left < words) {
            left += 13;
            pages++;
        }
        if (!depot.circular && pages > depot.quota) {
            return FULL;
        }
        Parcel parcel = new Parcel(depot.all.size(), time);
        tell(parcel.bytes, source, time, len);
        for (int n = 0; n < words; n++) {
            if (nextWord(depot) == 16) {
                if (depot.circular && depot.chain.size() == depot.quota) {
                    freeFirst(depot);
                }
                open(depot);
            }
            Opened last = depot.chain.get(depot.chain.size() - 1);
            int word = nextWord(depot);
            last.words[word] = parcel;
            write(last.page, word);
            if (n == 0) {
                parcel.begin = last;
            }
        }
        depot.all.add(parcel);
        depot.clock = time;
        prune(depot);
        return parcel.position;
    }

    private void tell(List<Integer> bytes, int source, int time, int len) {
        bytes.add(source);
        four(bytes, time);
        bytes.add(len);
        for (int i = 0; i < len; i++) {
            bytes.add(buffer[i]);
        }
    }

    private static void four(List<Integer> bytes, int number) {
        bytes.add(number >> 24 & 255);
        bytes.add(number >> 16 & 255);
        bytes.add(number >> 8 & 255);
        bytes.add(number & 255);
    }

    int play(int k, int from, int to, int prio) {
        Depot depot = depot(k);
        if (depot == null || prio < 0 || prio > 9) {
            return BAD;
        }
        for (int number = 0; number < 4; number++) {
            if (numbered(number) == null) {
                playing.add(new Playing(number, k, depot, from, to, prio));
                return number;
            }
        }
        return FULL;
    }

    private Playing numbered(int number) {
        for (Playing one : playing) {
            if (one.number == number) {
                return one;
            }
        }
        return null;
    }

    boolean stop(int p) {
        return playing.remove(numbered(p));
    }

    int frame() {
        Playing sender = null;
        for (Playing one : playing) {
            if (!one.in().isEmpty() && (sender == null || one.priority < sender.priority)) {
                sender = one;
            }
        }
        if (sender == null) {
            return NONE;
        }
        Parcel parcel = choose(sender);
        asked.remove(parcel);
        sender.sent = parcel.position;
        frame = new ArrayList<>();
        frame.add(sender.k);
        four(frame, parcel.position);
        frame.addAll(parcel.bytes);
        return frame.size();
    }

    private Parcel choose(Playing sender) {
        List<Parcel> in = sender.in();
        for (Parcel parcel : asked) {
            if (in.contains(parcel)) {
                return parcel;
            }
        }
        for (Parcel parcel : in) {
            if (parcel.position > sender.sent) {
                return parcel;
            }
        }
        return in.get(0);
    }

    int frameByte(int i) {
        return frame == null || i < 0 || i >= frame.size() ? NONE : frame.get(i);
    }

    int confirm(int k, int from, int to) {
        Depot depot = depot(k);
        if (depot == null || from > to) {
            return BAD;
        }
        int confirmed = 0;
        for (Parcel parcel : depot.kept()) {
            if (parcel.position >= from && parcel.position <= to && !parcel.confirmed) {
                parcel.confirmed = true;
                asked.remove(parcel);
                confirmed++;
            }
        }
        prune(depot);
        return confirmed;
    }

    private Parcel kept(int k, int position) {
        Depot depot = depot(k);
        if (depot != null) {
            for (Parcel parcel : depot.kept()) {
                if (parcel.position == position) {
                    return parcel;
                }
            }
        }
        return null;
    }

    boolean gap(int k, int position) {
        Parcel parcel = kept(k, position);
        if (parcel == null || parcel.confirmed || asked.contains(parcel)) {
            return false;
        }
        return asked.add(parcel);
    }

    int count(int k, int what) {
        Depot depot = depot(k);
        if (depot == null || what < 0 || what > 5) {
            return BAD;
        }
        List<Parcel> confirmed = depot.kept();
        confirmed.removeIf(parcel -> !parcel.confirmed);
        List<Parcel> askedHere = depot.kept();
        askedHere.retainAll(asked);
        int[] answers = {depot.kept().size(), confirmed.size(), depot.all.size(),
            depot.chain.size(), depot.clock, askedHere.size()};
        return answers[what];
    }

    int packetByte(int k, int position, int i) {
        Parcel parcel = kept(k, position);
        return parcel == null || i < 0 || i >= parcel.bytes.size() ? NONE : parcel.bytes.get(i);
    }

    int seek(int k, int time) {
        Depot depot = depot(k);
        if (depot != null) {
            for (Parcel parcel : depot.kept()) {
                if (parcel.time >= time) {
                    return parcel.position;
                }
            }
        }
        return NONE;
    }

    int tick(int words) {
        if (words < 0 || words > 1000) {
            return BAD;
        }
        rebuild();
        int done = 0;
        for (int n = 0; n < words; n++) {
            int flips = flips(scrubModule, scrubWord);
            if (!missing(scrubModule, scrubWord) && flips > 0) {
                bits[scrubModule][scrubWord] = new boolean[39];
                corrected += flips == 1 ? 1 : 0;
                mended += flips == 2 ? 1 : 0;
                done++;
            }
            scrubWord++;
            if (scrubWord == 128) {
                scrubWord = 0;
                scrubModule = scrubModule == 5 ? 0 : scrubModule + 1;
            }
        }
        return done;
    }

    private void rebuild() {
        for (int module = 0; module < 6; module++) {
            for (int row = 0; row < 8; row++) {
                if (!off[module] && blank[module][row]) {
                    blank[module][row] = false;
                    return;
                }
            }
        }
    }

    boolean flip(int module, int word, int bit) {
        if (module < 0 || module > 5 || word < 0 || word > 127 || bit < 0 || bit > 38) {
            return false;
        }
        if (missing(module, word)) {
            return false;
        }
        bits[module][word][bit] = !bits[module][word][bit];
        boolean allowed = flips(module, word) <= 2;
        for (int one = 0; one < 6; one++) {
            for (int other = 0; other < 6; other++) {
                if (one != other && flips(one, word) == 2
                        && (missing(other, word) || flips(other, word) == 2)) {
                    allowed = false;
                }
            }
        }
        if (!allowed) {
            bits[module][word][bit] = !bits[module][word][bit];
        }
        return allowed;
    }

    boolean latch(int module) {
        if (module < 0 || module > 5 || told(3) != 0) {
            return false;
        }
        for (int n = 0; n < 6 * 128; n++) {
            if (n / 128 != module && flips(n / 128, n % 128) == 2) {
                return false;
            }
        }
        off[module] = true;
        for (int word = 0; word < 128; word++) {
            bits[module][word] = new boolean[39];
        }
        return true;
    }

    boolean power(int module) {
        if (module < 0 || module > 5 || !off[module]) {
            return false;
        }
        off[module] = false;
        for (int row = 0; row < 8; row++) {
            blank[module][row] = true;
        }
        return true;
    }

    int checkpoint(int words) {
        if (words < 0) {
            return BAD;
        }
        int takes = 6;
        for (int k = 0; k < 4; k++) {
            if (depots[k] != null) {
                for (Parcel parcel : depots[k].kept()) {
                    Parcel before = kept(k, parcel.position - 1);
                    if (parcel.confirmed && (before == null || !before.confirmed)) {
                        takes += 2;
                    }
                }
            }
        }
        if (words >= takes) {
            save();
        }
        return takes;
    }

    void reset() {
        for (Depot depot : depots) {
            if (depot != null) {
                List<Parcel> kept = depot.kept();
                depot.clock = kept.isEmpty() ? 0 : kept.get(kept.size() - 1).time;
                for (Parcel parcel : kept) {
                    parcel.confirmed = saved.contains(parcel);
                }
            }
        }
        asked.clear();
        playing.clear();
        frame = null;
        scrubModule = 0;
        scrubWord = 0;
    }

    int told(int what) {
        int[] answers = {corrected, mended, 0, 0, 0};
        for (int page = 0; page < 40; page++) {
            answers[2] += isFree(page) ? 1 : 0;
        }
        for (int n = 0; n < 6 * 8; n++) {
            answers[3] += off[n / 8] || blank[n / 8][n % 8] ? 1 : 0;
        }
        for (int n = 0; n < 6 * 128; n++) {
            answers[4] += flips(n / 128, n % 128) > 0 ? 1 : 0;
        }
        return what < 0 || what > 4 ? BAD : answers[what];
    }
}

import java.util.Arrays;

/** Frames of blocks, opened and judged in full, and packed by three levels; README.md says how it is used. */
public final class TabledFrames {
    private static final int MOST = 8000;
    private static final int MOST_KEPT = 3000;
    private static final int MOST_TO_PACK = 6000;
    private static final int MOST_NOTED = 2000;
    private static final int MOST_LIMIT = 131072;
    private static final long LOW_31 = 0x7FFFFFFFL;
    private static final int BLOCK = 2048;
    private static final int LEAST_FOUND = 4;
    private static final int MOST_FOUND = BLOCK / LEAST_FOUND;

    private static final int OUTSIDE = -2;
    private static final int NOT_NOW = -3;
    private static final int NO_ROOM = -4;
    private static final int FAULTS = -10;

    private static final long FRAME_MARK = 4247762216L;
    private static final long DICTIONARY_MARK = 3962610743L;
    private static final long PASSED_FIRST = 407710288L;
    private static final long PASSED_LAST = 407710303L;

    private static final int PLAIN = 0;
    private static final int ONE_BYTE = 1;
    private static final int PACKED = 2;

    private static final int LETTERS = 0;
    private static final int OFFSETS = 1;
    private static final int COPIES = 2;
    private static final int KINDS = 3;

    private static final int SYMBOLS = 256;
    private static final int PLACES = 512;
    private static final int MOST_WEIGHT = 11;
    private static final int WORDS = 2048;

    private static final int[] GREATEST = {35, 31, 52};
    private static final int[] MOST_LOG = {9, 8, 9};
    private static final int[] DEFAULT_LOG = {6, 5, 6};
    private static final int[] DEFAULT_LETTERS = {
        4, 3, 2, 2, 2, 2, 2, 2, 2, 2, 2, 2, 2, 1, 1, 1, 2, 2, 2, 2, 2, 2, 2, 2,
        2, 3, 2, 1, 1, 1, 1, 1, -1, -1, -1, -1};
    private static final int[] DEFAULT_OFFSETS = {
        1, 1, 1, 1, 1, 1, 2, 2, 2, 1, 1, 1, 1, 1, 1, 1, 1, 1, 1, 1, 1, 1, 1, 1,
        -1, -1, -1, -1, -1};
    private static final int[] DEFAULT_COPIES = {
        1, 4, 3, 2, 2, 2, 2, 2, 2, 1, 1, 1, 1, 1, 1, 1, 1, 1, 1, 1, 1, 1, 1, 1,
        1, 1, 1, 1, 1, 1, 1, 1, 1, 1, 1, 1, 1, 1, 1, 1, 1, 1, 1, 1, 1, 1, -1, -1,
        -1, -1, -1, -1, -1};

    private static final int[] LETTERS_BASE = {
        0, 1, 2, 3, 4, 5, 6, 7, 8, 9, 10, 11, 12, 13, 14, 15, 16, 18, 20, 22, 24, 28, 32, 40,
        48, 64, 128, 256, 512, 1024, 2048, 4096, 8192, 16384, 32768, 65536};
    private static final int[] LETTERS_BITS = {
        0, 0, 0, 0, 0, 0, 0, 0, 0, 0, 0, 0, 0, 0, 0, 0, 1, 1, 1, 1, 2, 2, 3, 3,
        4, 6, 7, 8, 9, 10, 11, 12, 13, 14, 15, 16};
    private static final int[] COPIES_BASE = {
        3, 4, 5, 6, 7, 8, 9, 10, 11, 12, 13, 14, 15, 16, 17, 18, 19, 20, 21, 22, 23, 24, 25, 26,
        27, 28, 29, 30, 31, 32, 33, 34, 35, 37, 39, 41, 43, 47, 51, 59, 67, 83, 99, 131, 259, 515,
        1027, 2051, 4099, 8195, 16387, 32771, 65539};
    private static final int[] COPIES_BITS = {
        0, 0, 0, 0, 0, 0, 0, 0, 0, 0, 0, 0, 0, 0, 0, 0, 0, 0, 0, 0, 0, 0, 0, 0,
        0, 0, 0, 0, 0, 0, 0, 0, 1, 1, 1, 1, 2, 2, 3, 3, 4, 4, 5, 7, 8, 9,
        10, 11, 12, 13, 14, 15, 16};

    private static final long SUM_A = 0x9E3779B185EBCA87L;
    private static final long SUM_B = 0xC2B2AE3D27D4EB4FL;
    private static final long SUM_C = 0x165667B19E3779F9L;
    private static final long SUM_D = 0x85EBCA77C2B2AE63L;
    private static final long SUM_E = 0x27D4EB2F165667C5L;

    private Row row = new Row(MOST);
    private Row came = new Row(MOST);
    private Row spare = new Row(MOST);
    private final Weights weights = new Weights();
    private final Report report = new Report();
    private final Dictionary[] dictionaries = new Dictionary[3];
    private final Opener opener;
    private final Packer packer;
    private Dictionary kept;
    /** The one of the latest open(), whose tables table() and bits() may still tell of. */
    private Dictionary opened;
    private int place = -1;

    public TabledFrames() {
        for (int i = 0; i < dictionaries.length; i++) {
            dictionaries[i] = new Dictionary();
        }
        Table[] defaults = new Table[KINDS];
        for (int kind = 0; kind < KINDS; kind++) {
            defaults[kind] = new Table();
            defaults[kind].buildDefault(kind);
        }
        opener = new Opener(report, weights, defaults);
        packer = new Packer(weights, defaults);
    }

    public int feed(long v, int n) {
        if (n < 0 || n > 8) {
            return OUTSIDE;
        }
        if (n > MOST - row.count) {
            return NO_ROOM;
        }
        if (n == 0) {
            row.count = 0;
        }
        for (int i = n - 1; i >= 0; i--) {
            row.add((int) (v >>> (8 * i)));
        }
        return row.count;
    }

    public int fill(int n, int seed, int bits) {
        if (n < 0 || bits < 0 || bits > 7) {
            return OUTSIDE;
        }
        if (n > MOST - row.count) {
            return NO_ROOM;
        }
        int z = seed;
        for (int i = 0; i < n; i++) {
            z = z * 1664525 + 1013904223;
            row.add(z >>> 24 >>> bits);
        }
        return row.count;
    }

    public int size() {
        return row.count;
    }

    public int set(int i, int b) {
        if (i < 0 || i >= row.count || b < 0 || b > 255) {
            return OUTSIDE;
        }
        int was = row.get(i);
        row.put(i, b);
        return was;
    }

    public int cut(int n) {
        if (n < 0 || n > row.count) {
            return OUTSIDE;
        }
        int had = row.count;
        row.count = n;
        return had;
    }

    public int again(int first, int n) {
        if (first < 0 || n < 0 || first > row.count || n > row.count - first) {
            return OUTSIDE;
        }
        if (n > MOST - row.count) {
            return NO_ROOM;
        }
        row.addFrom(row, first, n);
        return row.count;
    }

    public int swap() {
        Row was = row;
        row = came;
        came = was;
        return row.count;
    }

    public int differ() {
        int most = Math.max(row.count, came.count);
        for (int i = 0; i < most; i++) {
            if (i >= row.count || i >= came.count || row.get(i) != came.get(i)) {
                return i;
            }
        }
        return NOT_NOW;
    }

    public int keep() {
        Dictionary next = unusedDictionary();
        if (!next.read(row, weights)) {
            place = 0;
            return FAULTS - 21;
        }
        if (row.count > MOST_KEPT) {
            return NO_ROOM;
        }
        place = -1;
        if (row.count == 0) {
            kept = null;
            return 0;
        }
        next.takeContent(row);
        kept = next;
        return next.number;
    }

    public int open(long span) {
        if (span < 0) {
            return OUTSIDE;
        }
        opened = kept;
        if (!opener.openAll(row, spare, kept, span)) {
            place = report.place;
            return FAULTS - report.fault;
        }
        place = -1;
        spareCameOut();
        return came.count;
    }

    public int place() {
        return place;
    }

    public int pack(int level, int marks) {
        if (level < 0 || level > 2 || marks < 0 || marks > 7) {
            return OUTSIDE;
        }
        boolean wanted = (marks & 4) != 0;
        if (wanted && kept == null) {
            return NOT_NOW;
        }
        if (row.count > MOST_TO_PACK) {
            return NO_ROOM;
        }
        packer.packRow(row, spare, wanted ? kept : null, level, marks);
        spareCameOut();
        return came.count;
    }

    public int out(int i) {
        return i < 0 || i >= came.count ? OUTSIDE : came.get(i);
    }

    public int sum(boolean high) {
        long sum = row.sumFrom(0);
        return (int) (high ? sum >>> 32 : sum);
    }

    public int told(int what) {
        return what < 0 || what >= report.told.length ? OUTSIDE : report.told[what];
    }

    public int sequence(int i, int what) {
        if (i < 0 || i >= MOST_NOTED || i >= report.told[Report.SEQUENCES] || what < 0 || what > 3) {
            return OUTSIDE;
        }
        return report.noted[4 * i + what];
    }

    public int table(int kind, int i, int what) {
        if (kind < 0 || kind >= KINDS || what < 0 || what > 2) {
            return OUTSIDE;
        }
        if (!opener.sequences.known[kind]) {
            return NOT_NOW;
        }
        Table latest = opener.sequences.latest[kind];
        if (i == -1) {
            return latest.log;
        }
        if (i < 0 || i >= 1 << latest.log) {
            return OUTSIDE;
        }
        return what == 0 ? latest.symbolAt(i) : what == 1 ? latest.bitsAt(i) : latest.baseAt(i);
    }

    public int bits(int symbol) {
        if (symbol < 0 || symbol >= SYMBOLS) {
            return OUTSIDE;
        }
        return opener.letters.known ? opener.letters.latest.lengths[symbol] : NOT_NOW;
    }

    private void spareCameOut() {
        Row was = came;
        came = spare;
        spare = was;
    }

    /** One of three is free always: the kept one and that of the latest open() are wanted as they are. */
    private Dictionary unusedDictionary() {
        for (int i = 1; i < dictionaries.length; i++) {
            if (dictionaries[i] != kept && dictionaries[i] != opened) {
                return dictionaries[i];
            }
        }
        return dictionaries[0];
    }

    /** LOG(v), 0 for a v that has none. */
    private static int logOf(long v) {
        int log = 0;
        for (int n = 1; n < 63; n++) {
            if (v >>> n == 0) {
                break;
            }
            log = n;
        }
        return log;
    }

    private static long turn(long v, int n) {
        return v << n | v >>> (64 - n);
    }

    private static long round(long a, long v) {
        return turn(a + v * SUM_B, 31) * SUM_A;
    }

    private static int[] baseOf(int kind) {
        return kind == LETTERS ? LETTERS_BASE : COPIES_BASE;
    }

    private static int[] extraOf(int kind) {
        return kind == LETTERS ? LETTERS_BITS : COPIES_BITS;
    }

    /** Which of the REMEMBERED a VALUE means, from 1 on; 4 is the first less 1, 0 none of them. */
    private static int whichOf(long value, int letters) {
        return value > 3 ? 0 : (int) value + (letters == 0 ? 1 : 0);
    }

    private static long offsetOf(int[] remembered, long value, int letters) {
        int which = whichOf(value, letters);
        if (which == 0) {
            return value - 3;
        }
        return which == 4 ? remembered[0] - 1 : remembered[Math.max(which, 1) - 1];
    }

    private static void remember(int[] remembered, int which, int offset) {
        if (which == 1) {
            return;
        }
        if (which != 2) {
            remembered[2] = remembered[1];
        }
        remembered[1] = remembered[0];
        remembered[0] = offset;
    }

    private static void rememberFirst(int[] remembered, Dictionary dictionary) {
        remembered[0] = dictionary == null ? 1 : dictionary.remembered[0];
        remembered[1] = dictionary == null ? 4 : dictionary.remembered[1];
        remembered[2] = dictionary == null ? 8 : dictionary.remembered[2];
    }

    /** Bytes up to a most; those beyond it are counted and not held, so that a count can be judged. */
    static final class Row {
        final byte[] bytes;
        int count;
        private long waiting;
        private int waitingBits;

        Row(int most) {
            bytes = new byte[Math.max(most, 0)];
        }

        int get(int i) {
            return i >= 0 && i < bytes.length ? bytes[i] & 255 : 0;
        }

        void put(int i, int b) {
            if (i >= 0 && i < bytes.length) {
                bytes[i] = (byte) b;
            }
        }

        void add(int b) {
            if (count >= 0 && count < bytes.length) {
                bytes[count] = (byte) b;
            }
            count++;
        }

        /** A row may be added to itself: what is read was there before. */
        void addFrom(Row other, int from, int n) {
            int held = Math.min(n, bytes.length - count);
            for (int i = 0; i < held; i++) {
                bytes[count + i] = (byte) other.get(from + i);
            }
            count += n;
        }

        void addSame(int b, int n) {
            int held = Math.min(n, bytes.length - count);
            for (int i = 0; i < held; i++) {
                bytes[count + i] = (byte) b;
            }
            count += n;
        }

        void addNumber(long v, int n) {
            for (int i = 0; i < n; i++) {
                add((int) (v >>> (8 * i)));
            }
        }

        void addBits(long v, int n) {
            waiting |= (v & ((1L << n) - 1)) << waitingBits;
            waitingBits += n;
            for (; waitingBits >= 8; waitingBits -= 8) {
                if (count >= 0 && count < bytes.length) {
                    bytes[count] = (byte) waiting;
                }
                count++;
                waiting >>>= 8;
            }
        }

        /** Zeros up to the byte's end. */
        void endBits() {
            addBits(0, (8 - waitingBits) & 7);
        }

        long number(int from, int n) {
            long v = 0;
            for (int i = n - 1; i >= 0; i--) {
                v = v << 8 | get(from + i);
            }
            return v;
        }

        boolean same(int from, int end) {
            for (int i = from + 1; i < end; i++) {
                if (get(i) != get(from)) {
                    return false;
                }
            }
            return true;
        }

        long sumFrom(int from) {
            int at = from + (count - from) / 32 * 32;
            long h = (at > from ? sumOfLong(from, at) : SUM_E) + (count - from);
            for (; count - at >= 8; at += 8) {
                h = turn(h ^ round(0, number(at, 8)), 27) * SUM_A + SUM_D;
            }
            for (; count - at >= 4; at += 4) {
                h = turn(h ^ number(at, 4) * SUM_A, 23) * SUM_B + SUM_C;
            }
            for (; count - at >= 1; at++) {
                h = turn(h ^ get(at) * SUM_E, 11) * SUM_A;
            }
            h = (h ^ h >>> 33) * SUM_B;
            h = (h ^ h >>> 29) * SUM_C;
            return h ^ h >>> 32;
        }

        private long sumOfLong(int from, int end) {
            long a = SUM_A + SUM_B;
            long b = SUM_B;
            long c = 0;
            long d = -SUM_A;
            for (int at = from; at < end; at += 32) {
                a = round(a, number(at, 8));
                b = round(b, number(at + 8, 8));
                c = round(c, number(at + 16, 8));
                d = round(d, number(at + 24, 8));
            }
            long h = turn(a, 1) + turn(b, 7) + turn(c, 12) + turn(d, 18);
            h = (h ^ round(0, a)) * SUM_A + SUM_D;
            h = (h ^ round(0, b)) * SUM_A + SUM_D;
            h = (h ^ round(0, c)) * SUM_A + SUM_D;
            return (h ^ round(0, d)) * SUM_A + SUM_D;
        }
    }

    /** Bits of a REVERSED ROW. */
    static final class Back {
        private byte[] bytes = new byte[0];
        private int first;
        int left;
        boolean lacking;

        /** False without a MARK. */
        boolean begin(Row row, int from, int end) {
            bytes = row.bytes;
            first = from;
            left = 0;
            lacking = false;
            if (from >= end || row.get(end - 1) == 0) {
                return false;
            }
            left = 8 * (end - 1 - from) + logOf(row.get(end - 1));
            return true;
        }

        long take(int n) {
            if (n > left) {
                lacking = true;
                return 0;
            }
            left -= n;
            return bitsFrom(left, n);
        }

        /** The next n bits, those that are not there as 0. */
        int look(int n) {
            int there = Math.min(n, left);
            return (int) (bitsFrom(left - there, there) << (n - there));
        }

        private long bitsFrom(int bit, int n) {
            int at = first + (bit >> 3);
            long v = 0;
            for (int got = 0; got < (bit & 7) + n; got += 8) {
                if (at >= 0 && at < bytes.length) {
                    v |= (bytes[at] & 255L) << got;
                }
                at++;
            }
            return v >>> (bit & 7) & ((1L << n) - 1);
        }
    }

    /** A TABLE of states, and the COUNTS from which it is made. */
    static final class Table {
        int log;
        /** Of each place BASE, BITS and symbol. */
        private final int[] places = new int[PLACES];
        private final int[] counts = new int[SYMBOLS];
        private final int[] nexts = new int[SYMBOLS];
        private int symbols;
        private byte[] data = new byte[0];
        private int bit;
        private int endBit;
        private boolean lacking;

        int symbolAt(int i) {
            return i >= 0 && i < PLACES ? places[i] & 255 : 0;
        }

        int bitsAt(int i) {
            return i >= 0 && i < PLACES ? places[i] >> 8 & 255 : 0;
        }

        int baseAt(int i) {
            return i >= 0 && i < PLACES ? places[i] >> 16 : 0;
        }

        void buildDefault(int kind) {
            int[] from = kind == LETTERS ? DEFAULT_LETTERS : kind == OFFSETS ? DEFAULT_OFFSETS : DEFAULT_COPIES;
            symbols = Math.min(from.length, SYMBOLS);
            System.arraycopy(from, 0, counts, 0, symbols);
            build(kind >= 0 && kind < KINDS ? DEFAULT_LOG[kind] : 0);
        }

        void buildOnly(int symbol) {
            log = 0;
            places[0] = symbol & 255;
        }

        /** Where the COUNTS that are told end, -1 if they are wrong: then the table is what it was. */
        int read(Row row, int from, int end, int greatest, int mostLog) {
            data = row.bytes;
            bit = 8 * from;
            endBit = 8 * end;
            lacking = false;
            symbols = 0;
            int toldLog = 5 + takeBits(4);
            if (lacking || toldLog > mostLog || toldLog > 9 || greatest >= SYMBOLS) {
                return -1;
            }
            int left = 1 << toldLog;
            boolean zeros = false;
            for (int turn = 0; turn < MOST && left > 0 && symbols <= greatest && !lacking; turn++) {
                if (zeros) {
                    int more = takeBits(2);
                    for (int i = 0; i < more && symbols <= greatest; i++) {
                        counts[symbols] = 0;
                        symbols++;
                    }
                    zeros = more == 3;
                } else {
                    int count = takeCount(left);
                    counts[symbols] = count;
                    symbols++;
                    left -= Math.abs(count);
                    zeros = count == 0;
                }
            }
            if (lacking || left != 0) {
                return -1;
            }
            build(toldLog);
            return (bit + 7) / 8;
        }

        private int takeCount(int left) {
            int m = logOf(left + 1) + 1;
            int few = (1 << m) - 2 - left;
            int v = takeBits(m - 1);
            if (v >= few && takeBits(1) == 1) {
                v += (1 << (m - 1)) - few;
            }
            return v - 1;
        }

        private int takeBits(int n) {
            if (bit + n > endBit) {
                lacking = true;
                return 0;
            }
            int v = 0;
            for (int i = 0; i < n; i++) {
                int at = (bit + i) >> 3;
                if (at >= 0 && at < data.length) {
                    v |= (data[at] >> ((bit + i) & 7) & 1) << i;
                }
            }
            bit += n;
            return v;
        }

        private void build(int newLog) {
            log = newLog;
            int size = Math.min(1 << log, PLACES);
            int top = size - 1;
            for (int symbol = 0; symbol < symbols; symbol++) {
                nexts[symbol] = Math.abs(counts[symbol]);
                if (counts[symbol] < 0 && top >= 0) {
                    places[top] = symbol;
                    top--;
                }
            }
            spread(size, top);
            for (int i = 0; i < size; i++) {
                int symbol = symbolAt(i);
                int x = nexts[symbol];
                nexts[symbol]++;
                int bits = log - logOf(x);
                places[i] = ((x << bits) - size) << 16 | bits << 8 | symbol;
            }
        }

        private void spread(int size, int top) {
            int step = size / 2 + size / 8 + 3;
            int p = 0;
            for (int symbol = 0; symbol < symbols; symbol++) {
                for (int i = 0; i < counts[symbol]; i++) {
                    places[p] = symbol;
                    p = (p + step) & (size - 1);
                    for (int past = 0; past < size && p > top; past++) {
                        p = (p + step) & (size - 1);
                    }
                }
            }
        }

        /** COUNTS of all uses, c 2^l / n at first; then as many less or more as the table's size wants. */
        void buildFor(int[] often, int greatest, int uses) {
            int newLog = uses < 32 ? 5 : uses < 128 ? 6 : 7;
            int size = 1 << newLog;
            symbols = Math.min(greatest + 1, SYMBOLS);
            int together = 0;
            for (int symbol = 0; symbol < symbols; symbol++) {
                int c = symbol < often.length ? often[symbol] : 0;
                counts[symbol] = c == 0 ? 0 : Math.max(1, c * size / Math.max(uses, 1));
                together += counts[symbol];
            }
            for (; together > size; together--) {
                counts[mostCounted()]--;
            }
            counts[mostCounted()] += size - together;
            build(newLog);
        }

        private int mostCounted() {
            int most = 0;
            for (int symbol = 1; symbol < symbols; symbol++) {
                if (counts[symbol] > counts[most]) {
                    most = symbol;
                }
            }
            return most;
        }

        void write(Row body) {
            body.addBits(log - 5, 4);
            int left = 1 << log;
            int zeros = 0;
            for (int symbol = 0; symbol < symbols; symbol++) {
                if (counts[symbol] == 0) {
                    if (zeros == 0) {
                        writeCount(body, 0, left);
                    }
                    zeros++;
                    continue;
                }
                if (zeros > 0) {
                    writeZeros(body, zeros - 1);
                    zeros = 0;
                }
                writeCount(body, counts[symbol], left);
                left -= counts[symbol];
            }
            body.endBits();
        }

        private void writeCount(Row body, int count, int left) {
            int m = logOf(left + 1) + 1;
            int few = (1 << m) - 2 - left;
            int v = count + 1;
            if (v < few) {
                body.addBits(v, m - 1);
            } else {
                body.addBits(v < 1 << (m - 1) ? v : v + few, m);
            }
        }

        private void writeZeros(Row body, int more) {
            int rest = more;
            for (; rest >= 3; rest -= 3) {
                body.addBits(3, 2);
            }
            body.addBits(rest, 2);
        }

        int firstPlace(int symbol) {
            for (int i = 0; i < 1 << log; i++) {
                if (symbolAt(i) == symbol) {
                    return i;
                }
            }
            return 0;
        }

        /** The one place of a symbol from which a state may become the next one. */
        int placeBefore(int symbol, int next) {
            for (int i = 0; i < 1 << log; i++) {
                int more = next - baseAt(i);
                if (symbolAt(i) == symbol && more >= 0 && more < 1 << bitsAt(i)) {
                    return i;
                }
            }
            return 0;
        }
    }

    /** The WEIGHTS of a CODE, as they are told or made. */
    static final class Weights {
        final int[] weights = new int[SYMBOLS];
        int count;
        int longest;
        private final Table table = new Table();
        private final Back back = new Back();
        private final int[] often = new int[SYMBOLS];
        private final int[] parents = new int[SYMBOLS];
        private final int[] depths = new int[SYMBOLS];

        /** Where the CODE ends, -1 if it is wrong. */
        int read(Row row, int from, int end) {
            if (from >= end) {
                return -1;
            }
            int b = row.get(from);
            int after = from + 1 + (b > 127 ? (b - 126) / 2 : b);
            if (after > end) {
                return -1;
            }
            if (b > 127) {
                readHalves(row, from + 1, b - 127);
            } else {
                int start = table.read(row, from + 1, after, SYMBOLS - 1, 6);
                if (start < 0 || !back.begin(row, start, after) || !readInTurn()) {
                    return -1;
                }
            }
            return complete() ? after : -1;
        }

        private void readHalves(Row row, int from, int n) {
            count = Math.min(n, SYMBOLS - 1);
            for (int i = 0; i < count; i++) {
                weights[i] = row.get(from + i / 2) >> (i % 2 == 0 ? 4 : 0) & 15;
            }
        }

        private boolean readInTurn() {
            int now = (int) back.take(table.log);
            int other = (int) back.take(table.log);
            if (back.lacking) {
                return false;
            }
            for (int i = 0; i < SYMBOLS - 2; i++) {
                weights[i] = table.symbolAt(now);
                count = i + 1;
                if (table.bitsAt(now) > back.left) {
                    return endWith(table.symbolAt(other));
                }
                int next = table.baseAt(now) + (int) back.take(table.bitsAt(now));
                now = other;
                other = next;
            }
            return false;
        }

        private boolean endWith(int weight) {
            weights[Math.min(count, SYMBOLS - 1)] = weight;
            count++;
            return true;
        }

        private boolean complete() {
            int sum = 0;
            for (int i = 0; i < count; i++) {
                if (weights[i] > MOST_WEIGHT) {
                    return false;
                }
                sum += weights[i] == 0 ? 0 : 1 << (weights[i] - 1);
            }
            longest = logOf(sum) + 1;
            int lacks = (1 << longest) - sum;
            if (sum == 0 || longest > MOST_WEIGHT || (lacks & (lacks - 1)) != 0) {
                return false;
            }
            return endWith(logOf(lacks) + 1);
        }

        /** Those by which the letters, all below 128 and two at least, have the shortest words. */
        void make(Row letters) {
            Arrays.fill(often, 0);
            for (int i = 0; i < letters.count; i++) {
                often[letters.get(i) & 127]++;
            }
            longest = join();
            for (int again = 0; again < 32 && longest > MOST_WEIGHT; again++) {
                for (int i = 0; i < 128; i++) {
                    often[i] = (often[i] + 1) / 2;
                }
                longest = join();
            }
            count = 0;
            for (int i = 0; i < 128; i++) {
                weights[i] = often[i] == 0 ? 0 : longest + 1 - depths[i];
                count = often[i] == 0 ? count : i + 1;
            }
        }

        /** The depth of the deepest; joined trees stand from 128 on, so the order of numbers is that of choice. */
        private int join() {
            Arrays.fill(parents, -1);
            int root = 0;
            for (int joined = 128; joined < SYMBOLS; joined++) {
                int first = least(joined);
                if (first < 0) {
                    break;
                }
                parents[first] = joined;
                int second = least(joined);
                if (second < 0) {
                    break;
                }
                parents[second] = joined;
                often[joined] = often[first] + often[second];
                root = joined;
            }
            int deepest = 0;
            for (int i = root; i >= 0; i--) {
                boolean below = i != root && often[i] > 0 && parents[i] >= 0;
                depths[i] = below ? depths[parents[i]] + 1 : 0;
                deepest = Math.max(deepest, depths[i]);
            }
            return deepest;
        }

        private int least(int end) {
            int least = -1;
            for (int i = 0; i < end; i++) {
                if (often[i] > 0 && parents[i] < 0 && (least < 0 || often[i] < often[least])) {
                    least = i;
                }
            }
            return least;
        }
    }

    /** A CODE: words by symbols, and symbols by what begins with their words. */
    static final class Code {
        int longest;
        final int[] lengths = new int[SYMBOLS];
        final int[] words = new int[SYMBOLS];
        private final int[] found = new int[WORDS];

        void build(Weights told) {
            longest = told.longest;
            Arrays.fill(lengths, 0);
            int at = 0;
            for (int weight = 1; weight <= longest; weight++) {
                for (int symbol = 0; symbol < told.count && symbol < SYMBOLS; symbol++) {
                    if (told.weights[symbol] == weight) {
                        lengths[symbol] = longest + 1 - weight;
                        words[symbol] = at >> (weight - 1);
                        int end = Math.min(at + (1 << (weight - 1)), WORDS);
                        for (; at < end; at++) {
                            found[at] = symbol;
                        }
                    }
                }
            }
        }

        /** The symbol whose word the bits, as many as the longest word has, begin with. */
        int symbolOf(int bits) {
            return bits >= 0 && bits < WORDS ? found[bits] : 0;
        }

        int lengthOf(Row letters, int from, int end) {
            int bits = 0;
            for (int i = from; i < end; i++) {
                bits += lengths[letters.get(i)];
            }
            return bits / 8 + 1;
        }
    }

    static final class Dictionary {
        int number;
        boolean tabled;
        final int[] remembered = new int[3];
        final Table[] tables = new Table[KINDS];
        final Code code = new Code();
        final Row content = new Row(MOST_KEPT);
        private int contentFrom;

        Dictionary() {
            for (int kind = 0; kind < KINDS; kind++) {
                tables[kind] = new Table();
            }
        }

        /** All but the CONTENT's bytes; false if it is wrong. */
        boolean read(Row row, Weights weights) {
            rememberFirst(remembered, null);
            number = 0;
            contentFrom = 0;
            tabled = row.count >= 4 && row.number(0, 4) == DICTIONARY_MARK;
            if (!tabled) {
                return true;
            }
            number = row.count < 8 ? 0 : (int) row.number(4, 4);
            if (number == 0) {
                return false;
            }
            int at = weights.read(row, 8, row.count);
            if (at < 0) {
                return false;
            }
            code.build(weights);
            at = readTable(row, at, OFFSETS);
            at = readTable(row, at, COPIES);
            at = readTable(row, at, LETTERS);
            contentFrom = at + 12;
            return at >= 0 && contentFrom <= row.count && readRemembered(row, at);
        }

        private int readTable(Row row, int at, int kind) {
            return at < 0 ? -1 : tables[kind].read(row, at, row.count, GREATEST[kind], MOST_LOG[kind]);
        }

        private boolean readRemembered(Row row, int at) {
            for (int i = 0; i < 3; i++) {
                long offset = row.number(at + 4 * i, 4);
                if (offset == 0 || offset > row.count - contentFrom) {
                    return false;
                }
                remembered[i] = (int) offset;
            }
            return true;
        }

        void takeContent(Row row) {
            content.count = 0;
            content.addFrom(row, contentFrom, row.count - contentFrom);
        }
    }

    /** What the latest open() tells. */
    static final class Report {
        static final int FRAMES = 0;
        static final int BLOCKS = 1;
        static final int PACKED_BLOCKS = 2;
        static final int ALL_LETTERS = 3;
        static final int SEQUENCES = 4;
        static final int BYTES = 5;
        static final int REMEMBERED = 6;
        static final int SPAN = 9;
        static final int TOLD_SIZE = 10;
        static final int PASSED = 11;

        int fault;
        int place;
        final int[] told = new int[12];
        final int[] noted = new int[4 * MOST_NOTED];

        void clear() {
            Arrays.fill(told, 0);
        }

        boolean fail(int newFault, int newPlace) {
            fault = newFault;
            place = newPlace;
            return false;
        }

        void note(int letters, int copy, int value, int offset) {
            int i = told[SEQUENCES];
            if (i >= 0 && i < MOST_NOTED) {
                noted[4 * i] = letters;
                noted[4 * i + 1] = copy;
                noted[4 * i + 2] = value;
                noted[4 * i + 3] = offset;
            }
            told[SEQUENCES]++;
        }

        void noteRemembered(int[] remembered) {
            System.arraycopy(remembered, 0, told, REMEMBERED, 3);
        }
    }

    /** The LETTERS of a PACKED block. */
    static final class Letters {
        final Row row = new Row(MOST);
        /** The CODE before, of this FRAME or the dictionary's, if there was one. */
        Code latest;
        boolean known;
        /** Where they end. */
        int end;
        private final Code own = new Code();
        private final Report report;
        private final Weights weights;
        private final Back back = new Back();
        private int start;
        private int at;
        private int kind;
        private int form;
        private int count;

        Letters(Report report, Weights weights) {
            this.report = report;
            this.weights = weights;
            latest = own;
        }

        void beginFrame(Dictionary dictionary) {
            known = dictionary != null && dictionary.tabled;
            latest = dictionary != null && dictionary.tabled ? dictionary.code : own;
        }

        boolean readHead(Row from, int newStart, int blockEnd, int limit) {
            start = newStart;
            kind = from.get(start) & 3;
            form = from.get(start) >> 2 & 3;
            int bytes = coded() ? Math.max(form + 2, 3) : form == 3 ? 3 : form % 2 + 1;
            if (start >= blockEnd || bytes > blockEnd - start) {
                return report.fail(10, start);
            }
            long told = from.number(start, bytes);
            at = start + bytes;
            int follow;
            if (coded()) {
                int width = form < 2 ? 10 : form == 2 ? 14 : 18;
                count = (int) (told >> 4 & ((1L << width) - 1));
                follow = (int) (told >> (4 + width));
            } else {
                count = (int) (told >> (form % 2 == 0 ? 3 : 4));
                follow = kind == ONE_BYTE ? 1 : count;
            }
            end = at + follow;
            return count <= limit && end <= blockEnd || report.fail(10, start);
        }

        private boolean coded() {
            return kind >= PACKED;
        }

        boolean readCode(Row from) {
            if (kind == PACKED) {
                int after = weights.read(from, at, end);
                if (after < 0) {
                    return report.fail(11, at);
                }
                own.build(weights);
                latest = own;
                known = true;
                at = after;
            }
            return !coded() || known || report.fail(12, start);
        }

        boolean readBody(Row from) {
            row.count = 0;
            boolean fine = true;
            if (kind == PLAIN) {
                row.addFrom(from, at, count);
            } else if (kind == ONE_BYTE) {
                row.addSame(from.get(at), count);
            } else {
                fine = form == 0 ? readStream(from, at, end, count) : readFour(from);
            }
            report.told[Report.ALL_LETTERS] += fine ? count : 0;
            return fine || report.fail(13, at);
        }

        private boolean readFour(Row from) {
            int begin = at + 6;
            int each = (count + 3) / 4;
            if (begin > end) {
                return false;
            }
            for (int i = 0; i < 3; i++) {
                int next = begin + (int) from.number(at + 2 * i, 2);
                if (next > end || !readStream(from, begin, next, each)) {
                    return false;
                }
                begin = next;
            }
            return readStream(from, begin, end, count - 3 * each);
        }

        private boolean readStream(Row from, int begin, int streamEnd, int n) {
            if (n < 0 || !back.begin(from, begin, streamEnd)) {
                return false;
            }
            for (int i = 0; i < n; i++) {
                int symbol = latest.symbolOf(back.look(latest.longest));
                int length = latest.lengths[symbol];
                if (length > back.left) {
                    return false;
                }
                back.left -= length;
                row.add(symbol);
            }
            return back.left == 0;
        }
    }

    /** The SEQUENCES of a PACKED block, and what comes out by them. */
    static final class Sequences {
        /** Of each kind the table that was the latest, in this FRAME or the dictionary's, if there was one. */
        final Table[] latest = new Table[KINDS];
        final boolean[] known = new boolean[KINDS];
        private final Table[] own = new Table[KINDS];
        private final Table[] defaults;
        private final int[] states = new int[KINDS];
        private final int[] remembered = new int[3];
        private final Report report;
        private final Letters letters;
        private final Back back = new Back();
        private final Row nothing = new Row(0);
        private Row made = nothing;
        private Row content = nothing;
        /** How many had come out when the FRAME began. */
        int frameFrom;
        int limit;
        private long span;
        private int wanted;
        private int modes;
        private int blockFrom;
        private int used;

        Sequences(Report report, Letters letters, Table[] defaults) {
            this.report = report;
            this.letters = letters;
            this.defaults = defaults;
            for (int kind = 0; kind < KINDS; kind++) {
                own[kind] = new Table();
                latest[kind] = own[kind];
            }
        }

        void beginFrame(Row newMade, Dictionary dictionary, long newSpan) {
            made = newMade;
            frameFrom = newMade.count;
            span = newSpan;
            limit = (int) Math.min(newSpan, MOST_LIMIT);
            content = dictionary == null ? nothing : dictionary.content;
            for (int kind = 0; kind < KINDS; kind++) {
                known[kind] = dictionary != null && dictionary.tabled;
                latest[kind] = dictionary != null && dictionary.tabled ? dictionary.tables[kind] : own[kind];
            }
            rememberFirst(remembered, dictionary);
            report.noteRemembered(remembered);
        }

        /** Where the head ends, -1 behind a FAULT. */
        int readHead(Row row, int start, int end) {
            int b = row.get(start);
            int head = b < 128 ? 1 : b < 255 ? 2 : 3;
            if (start >= end || head > end - start) {
                return wrong(14, start);
            }
            wanted = b;
            if (head == 2) {
                wanted = 256 * (b - 128) + row.get(start + 1);
            } else if (head == 3) {
                wanted = 32512 + (int) row.number(start + 1, 2);
            }
            modes = 0;
            int at = start + head;
            if (wanted == 0) {
                return at == end ? at : wrong(14, start);
            }
            modes = row.get(at);
            return at < end && (modes & 3) == 0 ? at + 1 : wrong(14, start);
        }

        private int wrong(int fault, int place) {
            report.fail(fault, place);
            return -1;
        }

        boolean none() {
            return wanted == 0;
        }

        /** Where the table's telling ends, -1 behind a FAULT. */
        int readTable(int kind, Row row, int start, int at, int end) {
            int mode = modes >> (6 - 2 * kind) & 3;
            if (mode == 3) {
                return known[kind] ? at : wrong(16, start);
            }
            int after = at;
            if (mode == 1) {
                after = at + 1;
                if (at >= end || row.get(at) > GREATEST[kind]) {
                    return wrong(15, at);
                }
                own[kind].buildOnly(row.get(at));
            } else if (mode == 2) {
                after = own[kind].read(row, at, end, GREATEST[kind], MOST_LOG[kind]);
                if (after < 0) {
                    return wrong(15, at);
                }
            }
            latest[kind] = mode == 0 ? defaults[kind] : own[kind];
            known[kind] = true;
            return after;
        }

        boolean run(Row row, int at, int end) {
            used = 0;
            blockFrom = made.count;
            if (!none()) {
                if (!back.begin(row, at, end)) {
                    return report.fail(17, at);
                }
                for (int kind = 0; kind < KINDS; kind++) {
                    states[kind] = (int) back.take(latest[kind].log);
                }
                for (int i = 0; i < wanted; i++) {
                    int fault = runOne(i == wanted - 1);
                    if (fault != 0) {
                        return report.fail(fault, at);
                    }
                }
            }
            putLetters(letters.row.count - used);
            if (tooMany()) {
                return report.fail(20, at);
            }
            return none() || back.left == 0 || report.fail(17, at);
        }

        /** The FAULT, 0 for none. */
        private int runOne(boolean last) {
            int symbol = symbolOf(OFFSETS);
            long value = (1L << symbol) + back.take(symbol);
            int copy = lengthOf(COPIES);
            int count = lengthOf(LETTERS);
            if (!last) {
                goOn(LETTERS);
                goOn(COPIES);
                goOn(OFFSETS);
            }
            if (back.lacking) {
                return 17;
            }
            if (count > letters.row.count - used) {
                return 19;
            }
            putLetters(count);
            long offset = offsetOf(remembered, value, count);
            if (!reaches(offset)) {
                return 18;
            }
            // 20 behind the LETTERS is 20 behind the COPY too: nothing is told between them.
            putCopy((int) offset, copy);
            if (tooMany()) {
                return 20;
            }
            remember(remembered, whichOf(value, count), (int) offset);
            report.note(count, copy, (int) value, (int) offset);
            report.noteRemembered(remembered);
            return 0;
        }

        private int symbolOf(int kind) {
            return Math.min(latest[kind].symbolAt(states[kind]), GREATEST[kind]);
        }

        private int lengthOf(int kind) {
            int symbol = symbolOf(kind);
            return baseOf(kind)[symbol] + (int) back.take(extraOf(kind)[symbol]);
        }

        private void goOn(int kind) {
            Table table = latest[kind];
            int state = states[kind];
            states[kind] = table.baseAt(state) + (int) back.take(table.bitsAt(state));
        }

        private boolean tooMany() {
            return made.count - blockFrom > limit;
        }

        private boolean reaches(long offset) {
            int cameOut = made.count - frameFrom;
            if (offset <= 0 || offset > cameOut + content.count) {
                return false;
            }
            return offset <= cameOut ? offset <= span : cameOut <= span;
        }

        private void putLetters(int n) {
            made.addFrom(letters.row, used, n);
            used += n;
        }

        /** Beyond the most nothing is held: the block is refused then, whatever its bytes are. */
        private void putCopy(int offset, int n) {
            int held = Math.max(0, Math.min(n, MOST - made.count));
            for (int i = 0; i < held; i++) {
                int from = made.count - offset;
                made.add(from >= frameFrom ? made.get(from) : content.get(content.count + from - frameFrom));
            }
            made.count += n - held;
        }
    }

    /** FRAMES and their BLOCKS. */
    static final class Opener {
        final Letters letters;
        final Sequences sequences;
        private final Report report;
        private Row row = new Row(0);
        private Row made = row;
        private Dictionary kept;
        private Dictionary counting;
        private long most;
        private int at;
        private long span;
        private long size;
        private boolean sized;
        private int sizePlace;
        private boolean summed;
        private int blockFrom;
        private int blockKind;
        private int blockSize;
        private boolean lastBlock;
        private boolean passed;

        Opener(Report report, Weights weights, Table[] defaults) {
            this.report = report;
            letters = new Letters(report, weights);
            sequences = new Sequences(report, letters, defaults);
        }

        /** False behind a FAULT. */
        boolean openAll(Row newRow, Row newMade, Dictionary newKept, long newMost) {
            row = newRow;
            made = newMade;
            kept = newKept;
            most = newMost;
            at = 0;
            made.count = 0;
            report.clear();
            forget();
            boolean fine = true;
            for (int frames = 0; frames < MOST && fine && at < row.count; frames++) {
                fine = readMark();
                for (int blocks = 0; blocks < MOST && fine && !lastBlock; blocks++) {
                    fine = readBlockHead() && (blockKind == PACKED ? readPacked() : readPlain()) && endBlock();
                }
                fine = fine && (passed || readEnd());
            }
            return fine;
        }

        private void forget() {
            letters.known = false;
            for (int kind = 0; kind < KINDS; kind++) {
                sequences.known[kind] = false;
            }
        }

        /** A FRAME's head, or all of one that is passed over. */
        private boolean readMark() {
            if (!there(4)) {
                return lacks();
            }
            long mark = row.number(at, 4);
            passed = mark >= PASSED_FIRST && mark <= PASSED_LAST;
            lastBlock = passed;
            if (!passed && mark != FRAME_MARK) {
                return report.fail(2, at);
            }
            at += 4;
            return passed ? passOver() : readHead();
        }

        private boolean there(long n) {
            return n <= row.count - at;
        }

        private boolean lacks() {
            return report.fail(1, row.count);
        }

        private boolean passOver() {
            if (!there(4)) {
                return lacks();
            }
            long n = row.number(at, 4);
            at += 4;
            if (!there(n)) {
                return lacks();
            }
            at += (int) n;
            report.told[Report.PASSED]++;
            return true;
        }

        private boolean readHead() {
            if (!there(1)) {
                return lacks();
            }
            int kind = row.get(at);
            if ((kind & 8) != 0) {
                return report.fail(3, at);
            }
            at++;
            boolean one = (kind & 32) != 0;
            summed = (kind & 4) != 0;
            if (!one && !readSpan()) {
                return false;
            }
            if (!readNumber(kind & 3) || !readSize(kind >> 6, one)) {
                return false;
            }
            beginFrame();
            return true;
        }

        private boolean readSpan() {
            if (!there(1)) {
                return lacks();
            }
            int b = row.get(at);
            long whole = 1L << (10 + b / 8);
            span = whole + b % 8 * (whole / 8);
            if (span > most) {
                return report.fail(4, at);
            }
            at++;
            return true;
        }

        private boolean readNumber(int form) {
            int n = form == 3 ? 4 : form;
            if (!there(n)) {
                return lacks();
            }
            int number = (int) row.number(at, n);
            boolean fits = kept != null && kept.number == number;
            if (number != 0 && !fits) {
                return report.fail(5, at);
            }
            counting = fits ? kept : null;
            at += n;
            return true;
        }

        private boolean readSize(int form, boolean one) {
            int n = form == 0 ? (one ? 1 : 0) : 1 << form;
            if (!there(n)) {
                return lacks();
            }
            sizePlace = at;
            sized = n > 0;
            size = row.number(at, n) + (form == 1 ? 256 : 0);
            at += n;
            if (one) {
                span = size;
                // below 0 it is beyond all that open() may be told, for it has no sign
                if (span < 0 || span > most) {
                    return report.fail(4, sizePlace);
                }
            }
            return true;
        }

        private void beginFrame() {
            report.told[Report.FRAMES]++;
            report.told[Report.SPAN] = (int) (span & LOW_31);
            report.told[Report.TOLD_SIZE] = sized ? (int) (size & LOW_31) : -1;
            letters.beginFrame(counting);
            sequences.beginFrame(made, counting, span);
        }

        private boolean readBlockHead() {
            blockFrom = at;
            if (!there(3)) {
                return lacks();
            }
            report.told[Report.BLOCKS]++;
            int head = (int) row.number(at, 3);
            lastBlock = (head & 1) != 0;
            blockKind = head >> 1 & 3;
            blockSize = head >> 3;
            if (blockKind > PACKED || blockSize > sequences.limit) {
                return report.fail(6, at);
            }
            at += 3;
            return there(blockKind == ONE_BYTE ? 1 : blockSize) || lacks();
        }

        private boolean readPlain() {
            if (blockKind == PLAIN) {
                made.addFrom(row, at, blockSize);
                at += blockSize;
            } else {
                made.addSame(row.get(at), blockSize);
                at++;
            }
            return true;
        }

        private boolean readPacked() {
            int end = at + blockSize;
            if (!letters.readHead(row, at, end, sequences.limit) || !letters.readCode(row) || !letters.readBody(row)) {
                return false;
            }
            int start = letters.end;
            at = sequences.readHead(row, start, end);
            for (int kind = 0; kind < KINDS && at >= 0 && !sequences.none(); kind++) {
                at = sequences.readTable(kind, row, start, at, end);
            }
            if (at < 0 || !sequences.run(row, at, end)) {
                return false;
            }
            at = end;
            return true;
        }

        private boolean endBlock() {
            if (made.count > MOST) {
                return report.fail(7, blockFrom);
            }
            report.told[Report.PACKED_BLOCKS] += blockKind == PACKED ? 1 : 0;
            report.told[Report.BYTES] = made.count;
            return true;
        }

        private boolean readEnd() {
            if (sized && size != made.count - sequences.frameFrom) {
                return report.fail(8, sizePlace);
            }
            if (!summed) {
                return true;
            }
            if (!there(4)) {
                return lacks();
            }
            if ((int) row.number(at, 4) != (int) made.sumFrom(sequences.frameFrom)) {
                return report.fail(9, at);
            }
            at += 4;
            return true;
        }
    }

    /** SEQUENCES of a block, found in the row that is packed and the CONTENT before it. */
    static final class Finder {
        final Row letters = new Row(BLOCK);
        int found;
        final int[] counts = new int[MOST_FOUND];
        final int[] copies = new int[MOST_FOUND];
        final int[] offsets = new int[MOST_FOUND];
        private final Row all = new Row(MOST_KEPT + MOST_TO_PACK);
        private final int[] heads = new int[4096];
        private final int[] links = new int[MOST_KEPT + MOST_TO_PACK];
        private int contentCount;
        private int linked;
        private int bestLength;
        private int bestPlace;

        void begin(Row row, Row content) {
            all.count = 0;
            if (content != null) {
                all.addFrom(content, 0, content.count);
            }
            contentCount = all.count;
            all.addFrom(row, 0, row.count);
            Arrays.fill(heads, -1);
            linked = 0;
        }

        /** Of the row's bytes from .. end - 1. */
        void find(int from, int end) {
            int last = contentCount + end;
            int at = contentCount + from;
            int pending = 0;
            found = 0;
            letters.count = 0;
            for (int turn = 0; turn < BLOCK && at < last; turn++) {
                findBest(at, last);
                if (bestLength == 0 || found >= MOST_FOUND) {
                    letters.add(all.get(at));
                    pending++;
                    at++;
                } else {
                    counts[found] = pending;
                    copies[found] = bestLength;
                    offsets[found] = at - bestPlace;
                    found++;
                    pending = 0;
                    at += bestLength;
                }
            }
        }

        private void findBest(int at, int last) {
            bestLength = 0;
            if (last - at < LEAST_FOUND) {
                return;
            }
            linkUpTo(at);
            int looked = 0;
            int place = heads[chainOf(at)];
            for (int turn = 0; turn < links.length && place >= 0 && looked < 8; turn++) {
                int length = sameFrom(place, at, last);
                if (length >= LEAST_FOUND) {
                    looked++;
                    if (length > bestLength) {
                        bestLength = length;
                        bestPlace = place;
                    }
                }
                place = place < links.length ? links[place] : -1;
            }
        }

        private void linkUpTo(int at) {
            for (; linked < at && linked < links.length; linked++) {
                int chain = chainOf(linked);
                links[linked] = heads[chain];
                heads[chain] = linked;
            }
        }

        private int chainOf(int at) {
            int four = all.get(at) | all.get(at + 1) << 8 | all.get(at + 2) << 16 | all.get(at + 3) << 24;
            return four * 0x9E3779B1 >>> 20;
        }

        private int sameFrom(int place, int at, int last) {
            int length = 0;
            for (int i = 0; at + i < last && all.get(place + i) == all.get(at + i); i++) {
                length++;
            }
            return length;
        }
    }

    /** One FRAME of a row. */
    static final class Packer {
        private final Finder finder = new Finder();
        private final Row body = new Row(MOST);
        private final Weights weights;
        private final Code code = new Code();
        private final Table[] defaults;
        private final Table[] own = new Table[KINDS];
        private final Table[] chosen = new Table[KINDS];
        private final int[] states = new int[KINDS];
        private final int[] values = new int[MOST_FOUND];
        private final int[] remembered = new int[3];
        private final int[] tried = new int[3];
        private final int[] often = new int[64];
        private Row row = body;
        private Row made = body;
        private int level;

        Packer(Weights weights, Table[] defaults) {
            this.weights = weights;
            this.defaults = defaults;
            for (int kind = 0; kind < KINDS; kind++) {
                own[kind] = new Table();
                chosen[kind] = own[kind];
            }
        }

        void packRow(Row newRow, Row newMade, Dictionary dictionary, int newLevel, int marks) {
            row = newRow;
            made = newMade;
            level = newLevel;
            made.count = 0;
            writeHead(dictionary == null ? 0 : dictionary.number, marks);
            rememberFirst(remembered, dictionary);
            finder.begin(row, dictionary == null ? null : dictionary.content);
            int from = 0;
            for (int blocks = 0; blocks == 0 || blocks < MOST && from < row.count; blocks++) {
                int end = Math.min(from + BLOCK, row.count);
                boolean tight = level > 0 && end > from;
                boolean same = tight && row.same(from, end);
                boolean packed = tight && !same && writeBody(from, end);
                writeBlock(from, end, same ? ONE_BYTE : packed ? PACKED : PLAIN);
                from = end;
            }
            if ((marks & 1) != 0) {
                made.addNumber(row.sumFrom(0), 4);
            }
        }

        private void writeHead(int number, int marks) {
            boolean one = (marks & 2) != 0;
            int size = row.count;
            int numberForm = number == 0 ? 0 : number >>> 8 == 0 ? 1 : number >>> 16 == 0 ? 2 : 3;
            int sizeForm = one && size >= 256 ? 1 : 0;
            made.addNumber(FRAME_MARK, 4);
            made.add(sizeForm << 6 | (one ? 32 : 0) | (marks & 1) << 2 | numberForm);
            if (!one) {
                made.add(size <= 1024 ? 0 : (logOf(size - 1) - 9) << 3);
            }
            made.addNumber(number, numberForm == 3 ? 4 : numberForm);
            if (one) {
                made.addNumber(sizeForm == 0 ? size : size - 256, sizeForm + 1);
            }
        }

        private void writeBlock(int from, int end, int kind) {
            int n = end - from;
            int last = end == row.count ? 1 : 0;
            made.addNumber(last | kind << 1 | (kind == PACKED ? body.count : n) << 3, 3);
            if (kind == PACKED) {
                made.addFrom(body, 0, body.count);
            } else {
                made.addFrom(row, from, kind == ONE_BYTE ? 1 : n);
            }
        }

        /** False if it has not fewer bytes than the block. */
        private boolean writeBody(int from, int end) {
            body.count = 0;
            finder.find(from, end);
            System.arraycopy(remembered, 0, tried, 0, 3);
            for (int i = 0; i < finder.found; i++) {
                values[i] = valueOf(finder.offsets[i], finder.counts[i]);
                remember(tried, whichOf(values[i], finder.counts[i]), finder.offsets[i]);
            }
            writeLetters();
            writeSequences();
            if (body.count >= end - from) {
                return false;
            }
            System.arraycopy(tried, 0, remembered, 0, 3);
            return true;
        }

        private int valueOf(int offset, int count) {
            for (int value = 1; value <= 3; value++) {
                if (offsetOf(tried, value, count) == offset) {
                    return value;
                }
            }
            return offset + 3;
        }

        private void writeLetters() {
            Row letters = finder.letters;
            int n = letters.count;
            boolean same = n > 1 && letters.same(0, n);
            if (!same && level == 2 && n >= 32 && allLow(letters) && writeCoded(letters, n)) {
                return;
            }
            int kind = same ? ONE_BYTE : PLAIN;
            // a block's letters are far below 4096, so the form of three bytes never comes
            if (n < 32) {
                body.add(kind | n << 3);
            } else {
                body.addNumber(kind | 4 | n << 4, 2);
            }
            body.addFrom(letters, 0, same ? 1 : n);
        }

        private boolean allLow(Row letters) {
            for (int i = 0; i < letters.count; i++) {
                if (letters.get(i) > 127) {
                    return false;
                }
            }
            return true;
        }

        /** False, and nothing written, if it has not fewer bytes than letters. */
        private boolean writeCoded(Row letters, int n) {
            weights.make(letters);
            code.build(weights);
            boolean single = n < 256;
            int each = single ? n : (n + 3) / 4;
            int follow = 1 + weights.count / 2 + (single ? 0 : 6);
            for (int from = 0; from < n; from += each) {
                follow += code.lengthOf(letters, from, Math.min(from + each, n));
            }
            if (follow >= n) {
                return false;
            }
            int form = single ? 0 : n < 1024 ? 1 : 2;
            int width = form == 2 ? 14 : 10;
            body.addNumber(2 | form << 2 | n << 4 | (long) follow << (4 + width), form == 2 ? 4 : 3);
            writeWeights();
            for (int from = 0; !single && from < 3 * each; from += each) {
                body.addNumber(code.lengthOf(letters, from, from + each), 2);
            }
            for (int from = 0; from < n; from += each) {
                writeStream(letters, from, Math.min(from + each, n));
            }
            return true;
        }

        /** The greatest symbol's is not told. */
        private void writeWeights() {
            int n = weights.count - 1;
            body.add(127 + n);
            for (int i = 0; i < n; i += 2) {
                int high = weights.weights[i];
                int low = i + 1 < n ? weights.weights[i + 1] : 0;
                body.add(high << 4 | low);
            }
        }

        private void writeStream(Row letters, int from, int end) {
            for (int i = end - 1; i >= from; i--) {
                int letter = letters.get(i);
                body.addBits(code.words[letter], code.lengths[letter]);
            }
            body.addBits(1, 1);
            body.endBits();
        }

        private void writeSequences() {
            int n = finder.found;
            if (n < 128) {
                body.add(n);
            } else {
                body.add(128 + (n >> 8));
                body.add(n);
            }
            if (n == 0) {
                return;
            }
            int modesPlace = body.count;
            int modes = 0;
            body.add(0);
            for (int kind = 0; kind < KINDS; kind++) {
                modes |= writeTable(kind, n) << (6 - 2 * kind);
            }
            body.put(modesPlace, modes);
            writeStates(n);
        }

        /** The mode by which the table is told. */
        private int writeTable(int kind, int n) {
            if (level < 2 || n < 8) {
                chosen[kind] = defaults[kind];
                return 0;
            }
            chosen[kind] = own[kind];
            Arrays.fill(often, 0);
            int greatest = 0;
            for (int i = 0; i < n; i++) {
                int symbol = symbolOf(kind, i);
                often[symbol]++;
                greatest = Math.max(greatest, symbol);
            }
            if (often[greatest] == n) {
                own[kind].buildOnly(greatest);
                body.add(greatest);
                return 1;
            }
            own[kind].buildFor(often, greatest, n);
            own[kind].write(body);
            return 2;
        }

        private void writeStates(int n) {
            for (int i = n - 1; i >= 0; i--) {
                if (i == n - 1) {
                    for (int kind = 0; kind < KINDS; kind++) {
                        states[kind] = chosen[kind].firstPlace(symbolOf(kind, i));
                    }
                } else {
                    goBack(OFFSETS, i);
                    goBack(COPIES, i);
                    goBack(LETTERS, i);
                }
                writeExtra(LETTERS, i, finder.counts[i]);
                writeExtra(COPIES, i, finder.copies[i]);
                body.addBits(values[i], symbolOf(OFFSETS, i));
            }
            body.addBits(states[COPIES], chosen[COPIES].log);
            body.addBits(states[OFFSETS], chosen[OFFSETS].log);
            body.addBits(states[LETTERS], chosen[LETTERS].log);
            body.addBits(1, 1);
            body.endBits();
        }

        private void goBack(int kind, int i) {
            Table table = chosen[kind];
            int before = table.placeBefore(symbolOf(kind, i), states[kind]);
            body.addBits(states[kind] - table.baseAt(before), table.bitsAt(before));
            states[kind] = before;
        }

        private void writeExtra(int kind, int i, int length) {
            int symbol = symbolOf(kind, i);
            body.addBits(length - baseOf(kind)[symbol], extraOf(kind)[symbol]);
        }

        private int symbolOf(int kind, int i) {
            if (kind == OFFSETS) {
                return logOf(values[i]);
            }
            int length = kind == LETTERS ? finder.counts[i] : finder.copies[i];
            int[] base = baseOf(kind);
            int symbol = 0;
            for (int s = 1; s < base.length && base[s] <= length; s++) {
                symbol = s;
            }
            return symbol;
        }
    }
}

/** Promises 16 to 19: what is told of the latest open(), each at its edges. */
final class ToldEdges {
    private static final byte[] ABCD = Make.text("abcd");
    private static final byte[] COPY = Make.onlySymbols(1, 4, 2, 0, Make.reversed(3, 2));
    private static final byte[] CODE = Make.bytes(132, 0x43, 0x20, 0x10);
    private static final byte[] PASSED = Make.join(Make.number(407710288L, 4), Make.number(1, 4), Make.bytes(9));

    private ToldEdges() {
    }

    static void all() {
        range();
        beforeAny();
        frames();
        blocks();
        packed();
        letters();
        sequences();
        bytes();
        remembered();
        spans();
        sizes();
        passedOver();
        ofTheLatest();
        keepLeavesIt();
        firstTwoThousand();
        noSuchSequence();
        placesOfTables();
        noTable();
        orderOfRefusals();
        bitsOfSymbols();
        noCode();
        latestOfEach();
    }

    private static byte[] sequenced(boolean last) {
        return Make.packed(last, Make.plain(ABCD), COPY);
    }

    private static byte[] whole() {
        return Make.join(Make.wide(), sequenced(true));
    }

    private static void range() {
        Check.says("11 FRAMES passed over. 0 before any. -2.");
        TabledFrames x = Check.fine("a frame", whole(), 7);
        for (int what : new int[] {-1, 12, Integer.MIN_VALUE, Integer.MAX_VALUE}) {
            Check.due("told(" + what + ")", x.told(what), -2);
            Check.due("told(" + what + ") before any", new TabledFrames().told(what), -2);
        }
        Check.told("a frame", x, 0, 1, 1, 1, 4, 1, 7, 4, 1, 4, 131072, -1, 0);
    }

    private static void beforeAny() {
        Check.says("0 before any.");
        TabledFrames x = new TabledFrames();
        Check.told("no open()", x, 0, 0, 0, 0, 0, 0, 0, 0, 0, 0, 0, 0, 0);
        Check.due("open", x.open(5), 0);
        Check.told("nothing to open", x, 0, 0, 0, 0, 0, 0, 0, 0, 0, 0, 0, 0, 0);
        Check.load(x, Make.head(0, 0));
        Check.due("open", x.open(5), -14);
        Check.told("no head was through", x, 0, 0, 0, 0, 0, 0, 0, 0, 0, 0, 0, 0, 0);
        Check.load(x, PASSED);
        Check.due("open", x.open(5), 0);
        Check.told("no head", x, 0, 0, 0, 0, 0, 0, 0, 0, 0, 0, 0, 0, 1);
    }

    private static void frames() {
        Check.says("what = 0 FRAMES whose head was through (not those passed over),");
        byte[][] heads = {Make.head(), Make.head(0), Make.head(8, 0), Make.head(1, 0), Make.head(1, 0, 1), Make.head(64, 0, 0), Make.head(32)};
        for (byte[] head : heads) {
            TabledFrames x = Check.with(Make.join(whole(), PASSED, head));
            Check.due("a fault", x.open(131072) < -10 ? 1 : 0, 1);
            Check.due("it was not through", x.told(0), 1);
        }
        byte[][] through = {Make.head(0, 0), Make.head(1, 0, 0), Make.head(64, 0, 0, 0), Make.head(32, 5)};
        for (byte[] head : through) {
            TabledFrames x = Check.fault("no block", Make.join(whole(), PASSED, head), 1, whole().length + 9 + head.length);
            Check.due("it was through", x.told(0), 2);
        }
    }

    private static void blocks() {
        Check.says("1 BLOCKS whose N3 was there,");
        byte[] start = Make.join(Make.wide(), sequenced(false));
        for (int n = 0; n < 3; n++) {
            Check.due(n + " bytes", Check.fault("an N3", Make.join(start, new byte[n]), 1, start.length + n).told(1), 1);
        }
        Check.due("kind 3", Check.fault("kind 3", Make.join(start, Make.block(true, 3, 0)), 6, start.length).told(1), 2);
        Check.due("above the limit", Check.fault("above", Make.join(start, Make.block(true, 0, 131073)), 6, start.length).told(1), 2);
        Check.due("its bytes lack", Check.fault("bytes lack", Make.join(start, Make.block(true, 0, 1)), 1, start.length + 3).told(1), 2);
    }

    private static void packed() {
        Check.says("2 PACKED ones that were through,");
        byte[] start = Make.join(Make.wide(), sequenced(false));
        Check.due("a plain one is none", Check.fine("plain", Make.join(start, Make.block(true, 0, 4, ABCD)), 11).told(2), 1);
        Check.due("two", Check.fine("two", Make.join(start, sequenced(true)), 14).told(2), 2);
        byte[][] wrong = {new byte[0], Make.plain(ABCD), Make.join(Make.plain(ABCD), Make.bytes(1, 0)), Make.join(Make.plain(ABCD), Make.bytes(1, 0x54, 4, 2, 0, 8)), Make.join(Make.allOf(1, 7994), Make.bytes(0))};
        int[] faults = {10, 14, 17, 17, 7};
        for (int i = 0; i < wrong.length; i++) {
            TabledFrames x = Check.with(Make.join(start, Make.packed(true, wrong[i])));
            Check.due("fault " + faults[i], x.open(131072), -10 - faults[i]);
            Check.due("it was not through", x.told(2), 1);
        }
        Check.due("just 8000", Check.fine("8000", Make.join(start, Make.packed(true, Make.allOf(1, 7993), Make.bytes(0))), 8000).told(2), 2);
        TabledFrames x = Check.fault("a frame's fault behind them", Make.join(Make.head(32, 100), sequenced(true)), 8, 5);
        Check.due("it was through", x.told(2), 1);
    }

    private static void letters() {
        Check.says("3 letters of all LETTERS that were through,");
        byte[] start = Make.join(Make.wide(), sequenced(false));
        TabledFrames x = Check.fault("14 behind them", Make.join(start, Make.packed(true, Make.allOf(1, 50))), 14, start.length + 3 + 4);
        Check.due("they were through", x.told(3), 54);
        x = Check.fault("10", Make.join(start, Make.packed(true, Make.bytes(16, 1))), 10, start.length + 3);
        Check.due("they were not", x.told(3), 4);
        x = Check.fault("11", Make.join(start, Make.packed(true, Make.coded(2, 5, Make.bytes(128, 0)), Make.bytes(0))), 11, start.length + 6);
        Check.due("they were not", x.told(3), 4);
        x = Check.fault("12", Make.join(start, Make.packed(true, Make.coded(3, 5, Make.bytes(1)), Make.bytes(0))), 12, start.length + 3);
        Check.due("they were not", x.told(3), 4);
        x = Check.fault("13", Make.join(start, Make.packed(true, Make.coded(2, 5, CODE, Make.bytes(1)), Make.bytes(0))), 13, start.length + 6 + 4);
        Check.due("they were not", x.told(3), 4);
        x = Check.fine("plain blocks have none", Make.join(start, Make.block(true, 0, 4, ABCD)), 11);
        Check.due("plain blocks have none", x.told(3), 4);
        x = Check.fault("the most", Make.one(Make.allOf(1, 131072), Make.bytes(0)), 7, 6);
        Check.due("the most", x.told(3), 131072);
    }

    private static void sequences() {
        Check.says("4 SEQUENCES that were through,");
        byte[] section = Make.onlySymbols(3, 1, 2, 0, Make.reversed(0, 2, 0, 2, 0, 2));
        Check.due("three", Check.fine("three", Make.one(Make.plain(ABCD), section), 13).told(4), 3);
        for (int n = 0; n < 3; n++) {
            TabledFrames x = Check.fault("bits of " + n, Make.one(Make.plain(ABCD), Make.onlySymbols(3, 1, 2, 0, Make.reversed(0, 2 * n + 1))), 17, 9 + 7 + 5);
            Check.due("bits of " + n, x.told(4), n);
            x = Check.fault("letters of " + n, Make.one(Make.allOf(1, n), section), 19, 9 + 4 + 5);
            Check.due("letters of " + n, x.told(4), n);
        }
        TabledFrames x = Check.fine("of all blocks and frames", Make.join(Make.wide(), sequenced(false), sequenced(true), whole()), 21);
        Check.due("of all blocks and frames", x.told(4), 3);
    }

    private static void bytes() {
        Check.says("5 bytes that came out of BLOCKS that were through,");
        byte[] start = Make.join(Make.wide(), sequenced(false), Make.block(false, 1, 3, Make.bytes(1)));
        Check.due("kind 3", Check.fault("kind 3", Make.join(start, Make.block(true, 3, 0)), 6, start.length).told(5), 10);
        Check.due("7", Check.fault("7", Make.join(start, Make.block(true, 1, 7991, Make.bytes(1))), 7, start.length).told(5), 10);
        TabledFrames x = Check.fault("18", Make.join(start, Make.packed(true, Make.plain(ABCD), Make.onlySymbols(1, 4, 5, 0, Make.reversed(0, 5)))), 18, start.length + 3 + 7 + 5);
        Check.due("18", x.told(5), 10);
        Check.due("8", Check.fault("8", Make.join(Make.head(32, 99), sequenced(true)), 8, 5).told(5), 7);
        Check.due("9", Check.fault("9", Make.join(Make.head(4, 0), sequenced(true), new byte[4]), 9, 6 + sequenced(true).length).told(5), 7);
        Check.due("of all frames", Check.fault("2", Make.join(whole(), whole(), new byte[4]), 2, 2 * whole().length).told(5), 14);
        Check.due("8000", Check.fine("8000", Make.join(start, Make.block(true, 1, 7990, Make.bytes(1))), 8000).told(5), 8000);
    }

    private static void remembered() {
        Check.says("6 to 8 the REMEMBERED (by the SEQUENCES that were through),");
        byte[] section = Make.onlySymbols(3, 1, 3, 0, Make.reversed(0, 3, 1, 3, 7, 3));
        byte[] before = Make.join(Make.wide(), Make.block(false, 1, 20, Make.bytes(1)));
        Check.told("all three", Check.fine("all three", Make.join(before, Make.packed(true, Make.plain(ABCD), section)), 33), 6, 12, 6, 5);
        TabledFrames x = Check.fault("19 of the third", Make.join(before, Make.packed(true, Make.allOf(1, 2), section)), 19, before.length + 3 + 4 + 5);
        Check.told("two were through", x, 6, 6, 5, 1);
        x = Check.fault("18 of the first", Make.one(Make.allOf(7, 9), Make.onlySymbols(3, 2, 3, 0, Make.reversed(0, 3, 0, 3, 7, 3))), 18, 9 + 4 + 5);
        Check.told("none was through", x, 4, 0, 0, 1, 4, 8);
        x = Check.fault("17 behind all", Make.join(before, Make.packed(true, Make.plain(ABCD), Make.onlySymbols(1, 1, 3, 0, Make.reversed(0, 3, 0, 1)))), 17, before.length + 3 + 7 + 5);
        Check.told("it was through", x, 6, 5, 1, 4);
    }

    private static void spans() {
        Check.says("9 the SPAN of the latest head that was through (the lowest 31 bits),");
        long[] want = {1L << 30, (1L << 30) + (7L << 27), 0, 1L << 28, 7L << 28};
        int[] bytes = {160, 167, 168, 169, 175};
        for (int i = 0; i < want.length; i++) {
            TabledFrames x = Check.fine("span " + bytes[i], Make.join(Make.head(0, bytes[i]), Make.block(true, 0, 0)), 0);
            Check.due("span " + bytes[i], x.told(9), want[i]);
        }
        TabledFrames x = Check.fine("two frames", Make.join(whole(), Make.head(0, 1), Make.block(true, 0, 0), PASSED), 7);
        Check.due("of the latest", x.told(9), 1152);
        x = Check.fault("a head that was not through", Make.join(whole(), Make.head(64, 1, 0)), 1, whole().length + 7);
        Check.told("of the one before", x, 9, 131072, -1);
        x = Check.fine("ONE", Make.join(Make.head(32, 0), Make.block(true, 0, 0)), 0);
        Check.told("ONE", x, 9, 0, 0);
    }

    private static void sizes() {
        Check.says("10 its SIZE (likewise; -1 when it was not told),");
        long[] sizes = {0, 1, Integer.MAX_VALUE, 1L << 31, (1L << 31) + 5, 0xFFFFFFFFL, 1L << 32, -1};
        for (long size : sizes) {
            byte[] frame = Make.join(Make.head(192, 0), Make.number(size, 8), Make.block(true, 1, 2, Make.bytes(1)));
            Check.due("size " + size, Check.fault("size " + size, frame, 8, 6).told(10), size & Integer.MAX_VALUE);
        }
        Check.due("not told", Check.fine("not told", whole(), 7).told(10), -1);
        byte[] told = Make.join(Make.head(32, 2), Make.block(true, 1, 2, Make.bytes(1)));
        Check.due("told, then not", Check.fine("two", Make.join(told, whole()), 9).told(10), -1);
        Check.due("not told, then told", Check.fine("two", Make.join(whole(), told), 9).told(10), 2);
    }

    private static void passedOver() {
        Check.says("11 FRAMES passed over.");
        TabledFrames x = Check.fine("two", Make.join(PASSED, whole(), PASSED), 7);
        Check.due("two", x.told(11), 2);
        Check.due("one head", x.told(0), 1);
        byte[] cut = Make.first(PASSED, PASSED.length - 1);
        Check.due("one, and one that lacks a byte", Check.fault("lacks", Make.join(PASSED, cut), 1, 17).told(11), 1);
    }

    private static void ofTheLatest() {
        Check.says("Of the latest open():");
        TabledFrames x = Check.fine("a frame", whole(), 7);
        Check.due("open -1", x.open(-1), -2);
        Check.told("a refused open() is none", x, 0, 1, 1, 1, 4, 1, 7, 4, 1, 4, 131072, -1, 0);
        Check.due("keep", x.keep(), 0);
        Check.told("keep() is none", x, 0, 1, 1, 1, 4, 1, 7, 4, 1, 4, 131072, -1, 0);
        x.feed(0, 0);
        Check.due("open", x.open(0), 0);
        Check.told("nothing", x, 0, 0, 0, 0, 0, 0, 0, 0, 0, 0, 0, 0, 0);
        Check.due("no sequence", x.sequence(0, 0), -2);
        Check.due("no table", x.table(0, 0, 0), -3);
        x = Check.fine("a code", Make.one(Make.coded(2, 0, CODE, Make.bytes(1)), Make.bytes(0)), 0);
        Check.due("a code", x.bits(0), 1);
        x.feed(0, 0);
        Check.due("open", x.open(0), 0);
        Check.due("no code", x.bits(0), -3);
    }

    /** Dictionaries that are kept behind an open(), right and wrong, leave what it tells. */
    private static void keepLeavesIt() {
        Check.says("in the latest open()");
        TabledFrames x = Check.with(DictionaryTest.dictionary(9, new int[] {1, 2, 3}, ABCD));
        Check.due("keep", x.keep(), 9);
        Check.load(x, Make.join(Make.head(1, 0x38, 9), Make.block(true, 0, 0)));
        Check.due("open", x.open(131072), 0);
        byte[] other = Make.join(Make.number(3962610743L, 4), Make.number(5, 4), Make.bytes(128, 0x10), Make.counts(5, 16, 16), Make.counts(6, 32, 32), Make.counts(7, 64, 64),
            Make.number(1, 4), Make.number(1, 4), Make.number(1, 4), ABCD);
        for (int turn = 0; turn < 6; turn++) {
            Check.load(x, turn % 3 == 2 ? Make.first(other, other.length - 4) : other);
            Check.due("keep", x.keep(), turn % 3 == 2 ? -31 : 5);
            int[] logs = {6, 5, 5};
            for (int kind = 0; kind < 3; kind++) {
                Check.due("l of kind " + kind, x.table(kind, -1, 0), logs[kind]);
            }
            Check.due("bits", x.bits(4), 4);
            Check.told("remembered", x, 6, 1, 2, 3);
        }
        x.cut(0);
        Check.due("keep none", x.keep(), 0);
        Check.due("bits", x.bits(4), 4);
        Check.due("l", x.table(0, -1, 0), 6);
    }

    private static byte[] copies(int n) {
        byte[] head = n < 128 ? Make.bytes(n) : Make.bytes(128 + n / 256, n % 256);
        return Make.join(Make.wide(), Make.block(false, 0, 4, ABCD), Make.packed(true, Make.bytes(0), head, Make.bytes(0x54, 0, 0, 0, 1)));
    }

    private static void firstTwoThousand() {
        Check.says("Of SEQUENCE i of the latest open() (the first 2000): what = 0 LETTERS, 1 COPY, 2 VALUE, 3 OFFSET.");
        for (int n : new int[] {1, 1999, 2000, 2001, 2600}) {
            TabledFrames x = Check.with(copies(n));
            Check.due(n + " sequences", x.open(131072), 4 + 3 * n);
            int last = Math.min(n, 2000) - 1;
            Check.sequence("the first", x, 0, 0, 3, 1, 4);
            Check.sequence("the last", x, last, 0, 3, 1, last % 2 == 0 ? 4 : 1);
            Check.sequence("behind the last", x, last + 1, -2, -2, -2, -2);
            Check.due("all are told", x.told(4), n);
        }
    }

    private static void noSuchSequence() {
        Check.says("-2 there is none such (which is through).");
        TabledFrames x = Check.fine("a frame", whole(), 7);
        Check.sequence("the first", x, 0, 4, 3, 7, 4);
        for (int i : new int[] {-1, 1, 1999, 2000, Integer.MIN_VALUE, Integer.MAX_VALUE}) {
            Check.sequence("sequence " + i, x, i, -2, -2, -2, -2);
        }
        for (int what : new int[] {-1, 4, Integer.MIN_VALUE, Integer.MAX_VALUE}) {
            Check.due("what " + what, x.sequence(0, what), -2);
        }
        x = Check.fault("the second is not through", Make.one(Make.allOf(1, 1), Make.onlySymbols(2, 1, 2, 0, Make.reversed(0, 2, 0, 2))), 19, 9 + 4 + 5);
        Check.sequence("the first", x, 0, 1, 3, 4, 1);
        Check.sequence("the second", x, 1, -2, -2, -2, -2);
        Check.sequence("of none", new TabledFrames(), 0, -2, -2, -2, -2);
    }

    private static void placesOfTables() {
        Check.says("place i: what = 0 its symbol, 1 BITS, 2 BASE; i = -1: its l.");
        TabledFrames x = Check.fault("default tables", Make.one(Make.bytes(0, 1, 0)), 17, 12);
        int[] logs = {6, 5, 6};
        for (int kind = 0; kind < 3; kind++) {
            for (int what = 0; what < 3; what++) {
                Check.due("l", x.table(kind, -1, what), logs[kind]);
                Check.due("the first", x.table(kind, 0, what) >= 0 ? 1 : 0, 1);
                Check.due("the last", x.table(kind, (1 << logs[kind]) - 1, what) >= 0 ? 1 : 0, 1);
                for (int i : new int[] {1 << logs[kind], -2, Integer.MIN_VALUE, Integer.MAX_VALUE}) {
                    Check.due("place " + i, x.table(kind, i, what), -2);
                }
            }
        }
    }

    private static void noTable() {
        Check.says("-3 no table of that kind was used in its latest FRAME (nor came with the dictionary that counts there),");
        byte[] plain = Make.join(Make.wide(), Make.block(true, 0, 4, ABCD));
        TabledFrames x = Check.fine("used in the frame before", Make.join(whole(), plain), 11);
        for (int kind = 0; kind < 3; kind++) {
            Check.due("not in the latest", x.table(kind, 0, 0), -3);
        }
        x = Check.fine("used in the latest", Make.join(plain, whole()), 11);
        for (int kind = 0; kind < 3; kind++) {
            Check.due("in the latest", x.table(kind, -1, 0), 0);
        }
        Check.load(x, DictionaryTest.dictionary(9, new int[] {1, 1, 1}, ABCD));
        Check.due("keep", x.keep(), 9);
        Check.load(x, Make.join(Make.head(1, 0x38, 9), Make.block(true, 0, 4, ABCD)));
        Check.due("open", x.open(131072), 4);
        int[] logs = {6, 5, 5};
        for (int kind = 0; kind < 3; kind++) {
            Check.due("came with the dictionary", x.table(kind, -1, 0), logs[kind]);
        }
        Check.due("its code too", x.bits(0), 1);
        Check.load(x, plain);
        Check.due("open", x.open(131072), 4);
        Check.due("the dictionary does not count there", x.table(0, 0, 0), -3);
        Check.due("nor its code", x.bits(0), -3);
        x = Check.fault("the second table has a fault", Make.one(Make.plain(ABCD), Make.bytes(1, 0x54, 4, 99)), 15, 9 + 7 + 3);
        Check.due("the first was told", x.table(0, 0, 0), 4);
        Check.due("the second was not", x.table(1, 0, 0), -3);
        Check.due("the third was not", x.table(2, 0, 0), -3);
        byte[] wrong = Make.packed(true, Make.plain(ABCD), Make.bytes(1, 0x54, 36));
        x = Check.fault("a fault behind a block", Make.join(Make.wide(), sequenced(false), wrong), 15, 6 + sequenced(false).length + 3 + 7 + 2);
        Check.due("the table of the block before is the latest", x.table(0, 0, 0), 4);
        wrong = Make.packed(true, Make.plain(ABCD), Make.bytes(1, 0x94, 0));
        x = Check.fault("counts with a fault behind a block", Make.join(Make.wide(), sequenced(false), wrong), 15, 6 + sequenced(false).length + 3 + 7 + 2);
        Check.due("the table of the block before is the latest", x.table(0, 0, 0), 4);
        Check.due("the table of the block before is the latest", x.table(0, -1, 0), 0);
        x = Check.fault("a head with a fault behind a frame", Make.join(whole(), Make.head(8)), 3, whole().length + 4);
        Check.due("no frame has begun", x.table(0, 0, 0), 4);
    }

    private static void orderOfRefusals() {
        Check.says("-2 no such kind or what, -3 no table of that kind was used");
        TabledFrames none = new TabledFrames();
        TabledFrames with = Check.fine("a frame", whole(), 7);
        for (int wrong : new int[] {-1, 3, Integer.MIN_VALUE, Integer.MAX_VALUE}) {
            Check.due("no such kind", none.table(wrong, 0, 0), -2);
            Check.due("no such what", none.table(0, 0, wrong), -2);
            Check.due("no such kind", with.table(wrong, 0, 0), -2);
            Check.due("no such what", with.table(0, 0, wrong), -2);
            Check.due("no such what of an l", with.table(0, -1, wrong), -2);
        }
        for (int i : new int[] {-2, -1, 0, 512, Integer.MIN_VALUE, Integer.MAX_VALUE}) {
            Check.due("no table before no such place", none.table(0, i, 0), -3);
        }
        Check.says("-2 no such place.");
        Check.due("one place", with.table(0, 0, 0), 4);
        Check.due("no second", with.table(0, 1, 0), -2);
    }

    private static void bitsOfSymbols() {
        Check.says("How many bits a symbol (0 .. 255) has in the latest CODE in the latest open(), 0 for none.");
        TabledFrames x = Check.fine("a code", Make.one(Make.coded(2, 0, CODE, Make.bytes(1)), Make.bytes(0)), 0);
        int[] want = {1, 2, 3, 0, 4, 4};
        for (int s = 0; s < 256; s++) {
            Check.due("bits of " + s, x.bits(s), s < want.length ? want[s] : 0);
        }
        x = Check.fine("another code behind", Make.join(Make.wide(), Make.packed(false, Make.coded(2, 0, CODE, Make.bytes(1)), Make.bytes(0)),
            Make.packed(true, Make.coded(2, 0, Make.bytes(130, 0x00, 0x10), Make.bytes(1)), Make.bytes(0))), 0);
        for (int s = 0; s < 256; s++) {
            Check.due("bits of " + s, x.bits(s), s == 2 || s == 3 ? 1 : 0);
        }
    }

    private static void noCode() {
        Check.says("-2 no such symbol, -3 likewise.");
        TabledFrames x = Check.fine("no code", whole(), 7);
        TabledFrames y = Check.fine("a code", Make.one(Make.coded(2, 0, CODE, Make.bytes(1)), Make.bytes(0)), 0);
        for (int s : new int[] {-1, 256, Integer.MIN_VALUE, Integer.MAX_VALUE}) {
            Check.due("bits of " + s, x.bits(s), -2);
            Check.due("bits of " + s, y.bits(s), -2);
        }
        Check.due("no code", x.bits(0), -3);
        Check.due("no code", x.bits(255), -3);
        Check.due("none of it", y.bits(255), 0);
        byte[] coded = Make.one(Make.coded(2, 0, CODE, Make.bytes(1)), Make.bytes(0));
        Check.due("in the frame before", Check.fine("two", Make.join(coded, whole()), 7).bits(0), -3);
        byte[] first = Make.packed(false, Make.coded(2, 0, CODE, Make.bytes(1)), Make.bytes(0));
        byte[] wrong = Make.packed(true, Make.coded(2, 0, Make.bytes(128, 0)), Make.bytes(0));
        x = Check.fault("a code with a fault behind another one", Make.join(Make.wide(), first, wrong), 11, 6 + first.length + 6);
        Check.due("the one before is the latest", x.bits(4), 4);
        Check.due("a code with a fault", Check.fault("11", Make.one(Make.coded(2, 0, Make.bytes(128, 0)), Make.bytes(0)), 11, 12).bits(0), -3);
        Check.due("a code and wrong streams", Check.fault("13", Make.one(Make.coded(2, 1, CODE, Make.bytes(1)), Make.bytes(0)), 13, 16).bits(0), 1);
    }

    private static void latestOfEach() {
        Check.says("Of the latest table of a kind (0 LETTERS, 1 OFFSETS, 2 COPIES) in the latest open(),");
        byte[] second = Make.packed(true, Make.plain(ABCD), Make.bytes(1, 0xD0, 2), Model.sequenceRow(new States[] {States.only(4), States.only(2), States.byDefault(2)}, java.util.List.of(new int[] {4, 3, 7})));
        TabledFrames x = Check.fine("two blocks", Make.join(Make.wide(), sequenced(false), second), 14);
        Check.due("letters of the first block", x.table(0, 0, 0), 4);
        Check.due("offsets of the second", x.table(1, 0, 0), 2);
        Check.due("copies of the second", x.table(2, -1, 0), 6);
        byte[] third = Make.packed(true, Make.plain(ABCD), Make.bytes(0));
        x = Check.fine("a block without any behind", Make.join(Make.wide(), sequenced(false), third), 11);
        Check.due("those of the first", x.table(2, -1, 0), 0);
        x = Check.fine("a frame passed over behind", Make.join(whole(), PASSED), 7);
        Check.due("those of the frame before it", x.table(1, 0, 0), 2);
    }
}

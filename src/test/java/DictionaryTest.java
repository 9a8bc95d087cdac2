/** Promises 10, 12, 18 and 19 by section 5: what is kept, where it counts, fault 21. */
public final class DictionaryTest {
    private static final byte[] CODE = Make.bytes(132, 0x43, 0x20, 0x10);
    private static final int[] OFFSETS = {4, 4, 4, 4, 0, 0, 0, 0, 0, 8, 8};
    private static final int[] COPIES = {30, -1, 0, 0, 1};
    private static final int[] LETTERS = {40, 20, 0, 0, 3, -1};
    private static final byte[] CONTENT = Make.text("the content that stands before");
    private static final byte[] NONE = Make.bytes(0);

    private DictionaryTest() {
    }

    public static void main(String[] args) {
        plain();
        limits();
        tabled();
        wrong();
        whereItCounts();
        reach();
        reachBeforeLimit();
        whatStays();
        oneBehindAnother();
        wrongBetween();
        beforeEachFrame();
        Check.end();
    }

    static byte[] dictionary(int number, int[] remembered, byte[] content) {
        return Make.join(Make.number(3962610743L, 4), Make.number(number, 4), CODE, Make.counts(5, OFFSETS),
            Make.counts(5, COPIES), Make.counts(6, LETTERS), Make.number(remembered[0], 4), Make.number(remembered[1], 4),
            Make.number(remembered[2], 4), content);
    }

    private static byte[] good() {
        return dictionary(77, new int[] {3, 7, 30}, CONTENT);
    }

    private static TabledFrames keeping(byte[] dictionary, int want) {
        TabledFrames x = Check.with(dictionary);
        Check.due("keep", x.keep(), want);
        Check.due("place", x.place(), -1);
        Check.due("the row stays", x.size(), dictionary.length);
        return x;
    }

    /** One sequence of no letters: OFFSET in bits behind symbol s, COPY 3 and copy. */
    private static byte[] copyOf(byte[] letters, int value, int copy) {
        int s = Model.log(value);
        return Make.join(Make.plain(letters), Make.onlySymbols(1, letters.length, s, copy - 3, Make.reversed(value - (1 << s), s)));
    }

    private static void plain() {
        TabledFrames x = keeping(CONTENT, 0);
        Check.load(x, Make.one(copyOf(new byte[0], 3 + 18, 9)));
        Check.due("open", x.open(131072), 9);
        Check.cameOut("of the content", x, Make.text("that stan"));
        Check.told("of the content", x, 6, 18, 1, 4);
        Check.load(x, Make.one(copyOf(Make.text("X"), 3 + 2, 7)));
        Check.due("open", x.open(131072), 8);
        Check.cameOut("across the end", x, Make.text("XeXeXeXe"));
        Check.load(x, Make.one(copyOf(Make.text("X"), 3 + 32, 3)));
        Check.fault("before the content", x, 131072, 18, 9 + 4 + 5);
        Check.load(x, Make.one(copyOf(Make.text("X"), 3 + 31, 4)));
        Check.due("the first byte", x.open(131072), 5);
        Check.cameOut("the first byte", x, Make.text("Xthe "));
        Check.due("no table by a plain one", x.table(0, 0, 0), 1);
        Check.load(x, Make.one(Make.plain(CONTENT), NONE));
        x.open(131072);
        Check.due("no table by a plain one", x.table(0, 0, 0), -3);
        Check.due("no code by a plain one", x.bits(0), -3);
        Check.load(x, Make.one(Make.coded(3, 1, Make.bytes(1))));
        Check.fault("no code by a plain one", x, 131072, 12, 9);
        Check.load(x, Make.join(Make.head(1, 0x38, 5), Make.block(true, 0, 0)));
        Check.fault("another number", x, 131072, 5, 6);
        x.cut(0);
        Check.due("keep none", x.keep(), 0);
        Check.load(x, Make.one(copyOf(new byte[0], 3 + 18, 9)));
        Check.fault("none is kept", x, 131072, 18, 9 + 3 + 5);
        x = keeping(Make.bytes(0x37, 0xA4, 0x30), 0);
        Check.load(x, Make.one(copyOf(new byte[0], 6, 3)));
        Check.due("three bytes of a mark are content", x.open(131072), 3);
    }

    private static void limits() {
        TabledFrames x = new TabledFrames();
        x.fill(3000, 1, 0);
        Check.due("3000", x.keep(), 0);
        Check.load(x, Make.bytes(1, 2, 3, 4));
        Check.fault("a fault", x, 5, 2, 0);
        x.feed(0, 0);
        x.fill(3001, 1, 0);
        Check.due("3001", x.keep(), -4);
        Check.due("-4 leaves the place", x.place(), 0);
        Check.due("the one before is kept", x.swap() >= 0 ? x.pack(0, 4) : 0, 9);
    }

    private static void tabled() {
        TabledFrames x = keeping(good(), 77);
        byte[] head = Make.head(1, 0x38, 77);
        Check.load(x, Make.join(head, Make.packed(true, Make.plain(new byte[0]), NONE)));
        Check.due("open", x.open(131072), 0);
        Check.told("remembered", x, 6, 3, 7, 30);
        new States(6, LETTERS).compare("letters", x, 0);
        new States(5, OFFSETS).compare("offsets", x, 1);
        new States(5, COPIES).compare("copies", x, 2);
        Check.due("bits", x.bits(4), 4);
        Check.load(x, Make.join(head, Make.packed(true, Make.coded(3, 3, Make.reversedText("1001" + "01")), NONE)));
        Check.due("its code is the one before", x.open(131072), 3);
        Check.cameOut("its code is the one before", x, Make.bytes(0, 2, 1));
        States[] tables = {new States(6, LETTERS), new States(5, OFFSETS), new States(5, COPIES)};
        byte[] row = Model.sequenceRow(tables, java.util.List.of(new int[] {1, 3, 1}, new int[] {0, 4, 2}, new int[] {4, 7, 512}));
        byte[] letters = Make.text("ABCDE");
        Check.load(x, Make.join(head, Make.packed(true, Make.plain(letters), Make.bytes(3, 0xFC), row)));
        Check.fault("its tables are the ones before", x, 131072, 18, 7 + 3 + 8 + 2);
        Check.told("its tables are the ones before", x, 4, 2, 0, 30, 3, 7);
        Check.sequence("by the first", x, 0, 1, 3, 1, 3);
        Check.sequence("by the third", x, 1, 0, 4, 2, 30);
        Check.load(x, Make.join(Make.head(0, 0x38), Make.packed(true, Make.plain(letters), Make.bytes(3, 0xFC), row)));
        Check.fault("not in a frame of number 0", x, 131072, 16, 6 + 3 + 8);
    }

    private static void wrongOne(String what, byte[] dictionary) {
        TabledFrames x = Check.with(CONTENT);
        Check.due(what + ": the one before", x.keep(), 0);
        Check.load(x, dictionary);
        Check.due(what, x.keep(), -31);
        Check.due(what + ": place", x.place(), 0);
        Check.load(x, Make.one(copyOf(new byte[0], 3 + 18, 9)));
        Check.due(what + ": the one before stays", x.open(131072), 9);
    }

    private static void wrong() {
        byte[] good = good();
        int head = good.length - CONTENT.length;
        for (int n = 4; n < head + 30; n++) {
            wrongOne("cut to " + n, Make.first(good, n));
        }
        wrongOne("number 0", dictionary(0, new int[] {3, 7, 30}, CONTENT));
        for (int i = 0; i < 3; i++) {
            for (int v : new int[] {0, 31, -1, Integer.MIN_VALUE}) {
                int[] remembered = {3, 7, 30};
                remembered[i] = v;
                wrongOne("remembered " + v, dictionary(77, remembered, CONTENT));
            }
        }
        wrongOne("no content", dictionary(77, new int[] {1, 1, 1}, new byte[0]));
        keeping(dictionary(77, new int[] {1, 1, 1}, Make.bytes(5)), 77);
        keeping(dictionary(-5, new int[] {30, 30, 1}, CONTENT), -5);
        byte[] start = Make.join(Make.number(3962610743L, 4), Make.number(9, 4));
        byte[] end = Make.join(Make.number(1, 4), Make.number(1, 4), Make.number(1, 4), CONTENT);
        byte[] offsets = Make.counts(5, OFFSETS);
        byte[] copies = Make.counts(5, COPIES);
        byte[] letters = Make.counts(6, LETTERS);
        keeping(Make.join(start, CODE, offsets, copies, letters, end), 9);
        wrongOne("a code of 0", Make.join(start, Make.bytes(128, 0), offsets, copies, letters, end));
        wrongOne("offsets of l 9", Make.join(start, CODE, Make.counts(9, 256, 256), copies, letters, end));
        wrongOne("copies of l 10", Make.join(start, CODE, offsets, Make.counts(10, 512, 512), letters, end));
        wrongOne("letters of l 10", Make.join(start, CODE, offsets, copies, Make.counts(10, 512, 512), end));
        int[] many = new int[37];
        many[0] = 31;
        many[36] = 1;
        wrongOne("letters above 35", Make.join(start, CODE, offsets, copies, Make.counts(5, many), end));
        wrongOne("offsets above 31", Make.join(start, CODE, Make.counts(5, many), copies, letters, end));
        keeping(Make.join(start, CODE, offsets, Make.counts(5, many), letters, end), 9);
        byte[] widest = Make.join(start, CODE, Make.counts(8, 128, 128), Make.counts(9, 256, 256), Make.counts(9, 256, 256), end);
        TabledFrames x = keeping(widest, 9);
        Check.load(x, Make.join(Make.head(1, 0x38, 9), Make.block(true, 0, 0)));
        Check.due("the most l", x.open(131072), 0);
        Check.due("of letters", x.table(0, -1, 0), 9);
        Check.due("of offsets", x.table(1, -1, 1), 8);
        Check.due("of copies", x.table(2, -1, 2), 9);
        byte[] large = Make.join(Make.first(good, 4), Make.same(0, 3000));
        TabledFrames y = Check.with(large);
        Check.due("the fault before the room", y.keep(), -31);
        y = Check.with(Make.join(good, Make.same(1, 3001 - good.length)));
        Check.due("good, but no room", y.keep(), -4);
    }

    private static void whereItCounts() {
        TabledFrames x = keeping(good(), 77);
        byte[] in77 = Make.join(Make.head(2, 0x38, 77, 0), Make.packed(true, Make.plain(Make.text("a")), NONE));
        byte[] in0 = Make.join(Make.head(3, 0x38, 0, 0, 0, 0), Make.packed(true, Make.plain(Make.text("b")), NONE));
        Check.load(x, Make.join(in77, in0));
        Check.due("two frames", x.open(131072), 2);
        Check.told("the latest has none", x, 6, 1, 4, 8);
        Check.due("no table", x.table(1, 0, 0), -3);
        Check.due("no code", x.bits(0), -3);
        Check.load(x, Make.join(in0, in77));
        Check.due("two frames", x.open(131072), 2);
        Check.told("the latest has it", x, 6, 3, 7, 30);
        Check.due("a table", x.table(1, -1, 0), 5);
        Check.due("a code", x.bits(0), 1);
        Check.load(x, Make.join(Make.head(1, 0x38, 78), Make.block(true, 0, 0)));
        Check.fault("another number", x, 131072, 5, 6);
        Check.load(x, Make.join(Make.head(0, 0x38), Make.packed(true, copyOf(new byte[0], 3 + 5, 3))));
        Check.fault("no content in a frame of 0", x, 131072, 18, 6 + 3 + 3 + 5);
    }

    /** An offset that reaches the content is fine till more than the span came out; one that does not, up to the span. */
    private static void reach() {
        TabledFrames x = keeping(Make.join(CONTENT, CONTENT, CONTENT, CONTENT), 0);
        for (int out : new int[] {1000, 1015, 1020, 1022, 1023, 1024, 1025, 1026, 1030}) {
            int rest = Math.max(1, out - 1000);
            byte[] before = Make.join(Make.head(0, 0), Make.block(false, 1, out - rest, Make.bytes('x')), Make.block(false, 1, rest - 1, Make.bytes('y')));
            for (int offset = out - 10; offset <= out + 130; offset++) {
                byte[] letter = Make.text("z");
                byte[] last = Make.packed(true, copyOf(letter, offset + 3, 3));
                Check.load(x, Make.join(before, last));
                boolean reaches = offset > out;
                boolean fine = offset <= out + 120 && (reaches ? out <= 1024 : offset <= 1024);
                Check.due(out + " came out, offset " + offset, x.open(1024), fine ? out + 3 : -28);
            }
        }
    }

    /** Behind the second's LETTERS 1027 bytes came out, more than the SPAN of 1024, which is the LIMIT: 18 comes before 20. */
    private static void reachBeforeLimit() {
        TabledFrames x = keeping(Make.same('c', 1000), 0);
        int[][] offsets = {{1021, 20}, {1024, 20}, {1025, 18}, {1027, 18}, {1028, 18}, {2027, 18}, {2028, 18}};
        for (int[] of : offsets) {
            byte[] row = Make.reversed(0, 10, 0, 9, 0, 8, of[0] + 3 - 1024, 10, 0, 9, 0, 8);
            Check.load(x, Make.join(Make.head(0, 0), Make.packed(true, Make.allOf('a', 512), Make.onlySymbols(2, 27, 10, 45, row))));
            Check.fault("offset " + of[0], x, 1024, of[1], 6 + 3 + 4 + 5);
            Check.told("offset " + of[0], x, 4, 1, 0, 1021, 1, 4);
        }
    }

    private static void whatStays() {
        TabledFrames x = keeping(good(), 77);
        byte[] frame = Make.join(Make.head(1, 0x38, 77), Make.block(true, 0, 0));
        Check.load(x, frame);
        Check.due("open", x.open(131072), 0);
        for (int turn = 1; turn < 6; turn++) {
            Check.load(x, Make.join(Make.number(3962610743L, 4), Make.number(turn, 4), Make.bytes(128, 0x10), Make.counts(5, 16, 16),
                Make.counts(5, 16, 16), Make.counts(5, 16, 16), Make.number(1, 4), Make.number(1, 4), Make.number(1, 4), CONTENT));
            Check.due("another one", x.keep(), turn);
            new States(6, LETTERS).compare("the latest open()'s letters", x, 0);
            new States(5, OFFSETS).compare("the latest open()'s offsets", x, 1);
            new States(5, COPIES).compare("the latest open()'s copies", x, 2);
            Check.due("the latest open()'s code", x.bits(4), 4);
        }
        Check.load(x, frame);
        Check.fault("the first is not kept any more", x, 131072, 5, 6);
        Check.due("no table now", x.table(0, 0, 0), -3);
        Check.load(x, Make.join(Make.head(1, 0x38, 5), Make.block(true, 0, 0)));
        Check.due("the last one is", x.open(131072), 0);
        Check.due("and its code", x.bits(4), 0);
        x.feed(0, 0);
        Check.due("none", x.keep(), 0);
        Check.due("its code stays told", x.bits(1), 1);
        Check.due("keep has no place", x.place(), -1);
    }

    /** A wrong one touches neither the kept one nor what the latest open() tells, however often it comes. */
    private static void wrongBetween() {
        TabledFrames x = new TabledFrames();
        byte[] wrong = dictionary(88, new int[] {1, 2, 99}, CONTENT);
        for (int turn = 0; turn < 8; turn++) {
            int first = 60 + turn;
            Check.load(x, dictionary(first, new int[] {3, 7, 30}, CONTENT));
            Check.due("keep", x.keep(), first);
            Check.load(x, Make.join(Make.head(1, 0x38, first), Make.block(true, 0, 0)));
            Check.due("open", x.open(131072), 0);
            Check.load(x, Make.text("another content"));
            Check.due("keep another", x.keep(), 0);
            for (int again = 0; again <= turn % 3; again++) {
                Check.load(x, wrong);
                Check.due("a wrong one", x.keep(), -31);
            }
            new States(6, LETTERS).compare("the latest open()'s letters", x, 0);
            Check.due("the latest open()'s code", x.bits(4), 4);
            Check.load(x, Make.one(copyOf(new byte[0], 3 + 15, 7)));
            Check.due("the kept one", x.open(131072), 7);
            Check.cameOut("the kept one", x, Make.text("another"));
        }
    }

    /** The content stands before each frame, not before the first alone. */
    private static void beforeEachFrame() {
        TabledFrames x = keeping(CONTENT, 0);
        byte[] one = Make.join(Make.wide(), Make.packed(true, copyOf(Make.text("A"), 3 + 31, 5)));
        byte[] two = Make.join(Make.wide(), Make.packed(true, copyOf(Make.text("B"), 3 + 20, 5)));
        Check.load(x, Make.join(one, two, one));
        Check.due("open", x.open(131072), 18);
        Check.cameOut("before each frame", x, Make.text("Athe cB thatAthe c"));
        x = keeping(Make.bytes('q'), 0);
        Check.due("one byte is a dictionary", x.pack(0, 4) > 0 ? 1 : 0, 1);
        x.cut(0);
        Check.due("none", x.keep(), 0);
        Check.due("none is kept", x.pack(0, 4), -3);
    }

    /** Ten dictionaries one behind another, plain and with tables: just the latest one's content is reached. */
    private static void oneBehindAnother() {
        TabledFrames x = new TabledFrames();
        for (int turn = 0; turn < 10; turn++) {
            byte[] content = Make.same('A' + turn, 5 + turn);
            boolean tabled = turn % 3 == 1;
            Check.load(x, tabled ? dictionary(50 + turn, new int[] {1, 2, 3}, content) : content);
            Check.due("keep " + turn, x.keep(), tabled ? 50 + turn : 0);
            byte[] head = tabled ? Make.head(1, 0x38, 50 + turn) : Make.wide();
            Check.load(x, Make.join(head, Make.packed(true, copyOf(new byte[0], 3 + 5 + turn, 3))));
            Check.due("open " + turn, x.open(131072), 3);
            Check.cameOut("open " + turn, x, Make.same('A' + turn, 3));
            Check.load(x, Make.join(head, Make.packed(true, copyOf(new byte[0], 3 + 6 + turn, 3))));
            Check.due("too far " + turn, x.open(131072), -28);
        }
    }
}

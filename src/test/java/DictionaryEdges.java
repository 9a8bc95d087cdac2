/** Section 5: what a dictionary is, where it counts, and fault 21, each at its edges. */
final class DictionaryEdges {
    private static final byte[] MARK = Make.number(3962610743L, 4);
    private static final byte[] CODE = Make.bytes(132, 0x43, 0x20, 0x10);
    private static final int[] OFFSETS = {4, 4, 4, 4, 0, 0, 0, 0, 0, 8, 8};
    private static final int[] COPIES = {30, -1, 0, 0, 1};
    private static final int[] LETTERS = {40, 20, 0, 0, 3, -1};
    private static final byte[] CONTENT = Make.text("0123456789abcdefghij");

    private DictionaryEdges() {
    }

    static void all() {
        allIsContent();
        parts();
        greatestParts();
        lacks();
        wrongCode();
        wrongCounts();
        remembered();
        numberZero();
        placeZero();
        counts();
        countsByZero();
        contentStandsBefore();
        contentBeforeEach();
        usedBefore();
        latestBehindIt();
        oneBehindAnother();
    }

    private static byte[] made(long number, byte[] code, byte[] offsets, byte[] copies, byte[] letters, long[] remembered, byte[] content) {
        return Make.join(MARK, Make.number(number, 4), code, offsets, copies, letters,
            Make.number(remembered[0], 4), Make.number(remembered[1], 4), Make.number(remembered[2], 4), content);
    }

    private static byte[] made(long number, long[] remembered, byte[] content) {
        return made(number, CODE, Make.counts(5, OFFSETS), Make.counts(5, COPIES), Make.counts(6, LETTERS), remembered, content);
    }

    private static byte[] good() {
        return made(9, new long[] {1, 2, 20}, CONTENT);
    }

    private static TabledFrames keeping(String what, byte[] dictionary, int number) {
        TabledFrames x = Check.with(dictionary);
        Check.due(what + ": keep", x.keep(), number);
        Check.due(what + ": place", x.place(), -1);
        return x;
    }

    /** FAULT 21, and the one that was kept before stays. */
    private static void wrong(String what, byte[] dictionary) {
        TabledFrames x = keeping("before", good(), 9);
        Check.load(x, dictionary);
        Check.due(what, x.keep(), -31);
        Check.due(what + ": place", x.place(), 0);
        Check.load(x, Make.join(Make.head(1, 0, 9), Make.block(true, 0, 0)));
        Check.due(what + ": the one before stays", x.open(1024), 0);
        Check.told(what + ": the one before stays", x, 6, 1, 2, 20);
    }

    /** A block of one copy of three without letters. */
    private static byte[] copy(int offset) {
        int s = Model.log(offset + 3);
        return Make.packed(true, Make.bytes(0), Make.onlySymbols(1, 0, s, 0, Make.reversed(offset + 3 - (1 << s), s)));
    }

    private static void allIsContent() {
        Check.says("else all is CONTENT, its number 0.");
        for (int n = 1; n < 4; n++) {
            TabledFrames x = keeping(n + " bytes of the mark", Make.first(MARK, n), 0);
            Check.load(x, Make.join(Make.head(0, 0), copy(n)));
            Check.due("they are content", x.open(1024), 3);
            Check.due("the first of them", x.out(0), 0x37);
            Check.load(x, Make.join(Make.head(0, 0), copy(n + 1)));
            Check.due("there are no more", x.open(1024), -28);
        }
        TabledFrames cut = Check.with(good());
        cut.cut(3);
        Check.due("three bytes of the mark, the fourth was cut off", cut.keep(), 0);
        for (int i = 0; i < 32; i++) {
            byte[] other = good();
            other[i / 8] ^= (byte) (1 << i % 8);
            TabledFrames x = keeping("another bit " + i, other, 0);
            Check.load(x, Make.join(Make.head(0, 0), copy(other.length)));
            Check.due("from its first byte on", x.open(1024), 3);
            Check.due("its first byte", x.out(0), other[0] & 255);
            Check.due("no code", x.bits(0), -3);
        }
        keeping("the mark, but behind a byte", Make.join(Make.bytes(0), good()), 0);
        TabledFrames x = keeping("the published frames' mark", Make.join(Make.head(), new byte[9]), 0);
        Check.due("it is kept", x.pack(0, 4) > 0 ? 1 : 0, 1);
    }

    private static void parts() {
        Check.says("bytes; if they begin with N4 3962610743: N4 its number, then a CODE, COUNTS of OFFSETS, COPIES, LETTERS, three N4 REMEMBERED, and the CONTENT;");
        TabledFrames x = keeping("good", good(), 9);
        Check.load(x, Make.join(Make.head(1, 0, 9), Make.block(true, 0, 0)));
        Check.due("open", x.open(1024), 0);
        new States(6, LETTERS).compare("letters", x, 0);
        new States(5, OFFSETS).compare("offsets", x, 1);
        new States(5, COPIES).compare("copies", x, 2);
        int[] bits = {1, 2, 3, 0, 4, 4, 0};
        for (int s = 0; s < bits.length; s++) {
            Check.due("bits of " + s, x.bits(s), bits[s]);
        }
        Check.told("remembered", x, 6, 1, 2, 20);
        Check.load(x, Make.join(Make.head(1, 0, 9), copy(20)));
        Check.due("the content's first byte", x.open(1024), 3);
        Check.cameOut("the content's first byte", x, Make.text("012"));
        Check.load(x, Make.join(Make.head(1, 0, 9), copy(21)));
        Check.due("before it is nothing", x.open(1024), -28);
    }

    private static void greatestParts() {
        Check.says("COUNTS of OFFSETS, COPIES, LETTERS,");
        int[] greatest = {35, 31, 52};
        int[] most = {9, 8, 9};
        byte[][] right = {Make.counts(6, LETTERS), Make.counts(5, OFFSETS), Make.counts(5, COPIES)};
        for (int kind = 0; kind < 3; kind++) {
            for (int l = 5; l <= 10; l++) {
                byte[][] parts = right.clone();
                parts[kind] = Make.counts(l, 1 << l - 1, 1 << l - 1);
                byte[] all = made(9, CODE, parts[1], parts[2], parts[0], new long[] {1, 1, 1}, CONTENT);
                if (l > most[kind]) {
                    wrong("l " + l + " of kind " + kind, all);
                } else {
                    keeping("l " + l + " of kind " + kind, all, 9);
                }
            }
            for (int s = greatest[kind] - 1; s <= greatest[kind] + 2; s++) {
                int[] counts = new int[s + 1];
                counts[0] = 31;
                counts[s] = 1;
                byte[][] parts = right.clone();
                parts[kind] = Make.counts(5, counts);
                byte[] all = made(9, CODE, parts[1], parts[2], parts[0], new long[] {1, 1, 1}, CONTENT);
                if (s > greatest[kind]) {
                    wrong("symbol " + s + " of kind " + kind, all);
                } else {
                    TabledFrames x = keeping("symbol " + s + " of kind " + kind, all, 9);
                    Check.load(x, Make.join(Make.head(1, 0, 9), Make.block(true, 0, 0)));
                    Check.due("open", x.open(1024), 0);
                    new States(5, counts).compare("kind " + kind, x, kind);
                }
            }
        }
    }

    private static void lacks() {
        Check.says("FAULT 21: any of this is wrong or lacks;");
        byte[] good = made(9, new long[] {1, 1, 1}, Make.text("x"));
        for (int n = 4; n < good.length; n++) {
            wrong("cut to " + n, Make.first(good, n));
            TabledFrames x = Check.with(good);
            x.cut(n);
            Check.due("what was cut off lacks, " + n, x.keep(), -31);
        }
        keeping("whole", good, 9);
        byte[] in = Make.join(Make.bytes(4 + Make.counts(5, 16, 16).length - 2), Make.counts(5, 16, 16), Make.reversed(3, 5, 3, 5));
        in[0] = (byte) (in.length - 1);
        byte[] turned = made(9, in, Make.counts(5, OFFSETS), Make.counts(5, COPIES), Make.counts(6, LETTERS), new long[] {1, 1, 1}, Make.text("x"));
        keeping("a code of the other form", turned, 9);
        for (int n = 4; n < turned.length; n++) {
            wrong("a code of the other form, cut to " + n, Make.first(turned, n));
        }
    }

    private static void wrongCode() {
        Check.says("any of this is wrong");
        byte[][] codes = {Make.bytes(128, 0), Make.bytes(128, 0xC0), Make.bytes(129, 0xBB), Make.bytes(129, 0x31), Make.bytes(0), Make.bytes(1, 0x10), Make.bytes(2, 0xFF, 0xFF)};
        for (byte[] code : codes) {
            wrong("code " + (code[0] & 255), made(9, code, Make.counts(5, OFFSETS), Make.counts(5, COPIES), Make.counts(6, LETTERS), new long[] {1, 1, 1}, CONTENT));
        }
        keeping("a code of two symbols", made(9, Make.bytes(128, 0x10), Make.counts(5, OFFSETS), Make.counts(5, COPIES), Make.counts(6, LETTERS), new long[] {1, 1, 1}, CONTENT), 9);
    }

    /** Tables in another order: the letters' l of 6 is fine for all, the symbols of the offsets are fine for letters. */
    private static void wrongCounts() {
        Check.says("wrong or lacks");
        int[] high = new int[53];
        high[0] = 31;
        high[52] = 1;
        byte[] copies = Make.counts(5, high);
        byte[] offsets = Make.counts(5, OFFSETS);
        byte[] letters = Make.counts(6, LETTERS);
        keeping("offsets, copies, letters", made(9, CODE, offsets, copies, letters, new long[] {1, 1, 1}, CONTENT), 9);
        wrong("copies, offsets, letters", made(9, CODE, copies, offsets, letters, new long[] {1, 1, 1}, CONTENT));
        wrong("offsets, letters, copies", made(9, CODE, offsets, letters, copies, new long[] {1, 1, 1}, CONTENT));
    }

    private static void remembered() {
        Check.says("a REMEMBERED is 0 or above what CONTENT has;");
        for (int i = 0; i < 3; i++) {
            for (long v : new long[] {0, 1, 19, 20, 21, 256, 257, 65537, 0x01000001L, 0x7FFFFFFFL, 0x80000000L, 0xFFFFFFFFL}) {
                long[] remembered = {2, 3, 4};
                remembered[i] = v;
                byte[] all = made(9, remembered, CONTENT);
                if (v == 0 || v > 20) {
                    wrong("remembered " + i + " is " + v, all);
                } else {
                    TabledFrames x = keeping("remembered " + i + " is " + v, all, 9);
                    Check.load(x, Make.join(Make.head(1, 0, 9), Make.block(true, 0, 0)));
                    Check.due("open", x.open(1024), 0);
                    Check.due("it is told", x.told(6 + i), v);
                }
            }
        }
        wrong("no content", made(9, new long[] {1, 1, 1}, new byte[0]));
        keeping("a content of one", made(9, new long[] {1, 1, 1}, Make.bytes(1)), 9);
        int head = good().length - CONTENT.length;
        byte[] most = new byte[3000 - head];
        keeping("all of 3000 bytes", made(9, new long[] {most.length, most.length, most.length}, most), 9);
        wrong("one more", made(9, new long[] {most.length, most.length, most.length + 1}, most));
    }

    private static void numberZero() {
        Check.says("the number is 0 (PLACE 0).");
        wrong("0", made(0, new long[] {1, 1, 1}, CONTENT));
        for (long number : new long[] {1, 255, 256, 65536, 1L << 24, 1L << 31, 0xFFFFFFFFL}) {
            keeping("number " + number, made(number, new long[] {1, 1, 1}, CONTENT), (int) number);
        }
        for (int n = 4; n < 8; n++) {
            wrong(n - 4 + " bytes of a number", Make.first(good(), n));
        }
    }

    private static void placeZero() {
        Check.says("(PLACE 0)");
        TabledFrames x = Check.with(Make.bytes(1, 2, 3, 4, 5));
        byte[][] all = {made(0, new long[] {1, 1, 1}, CONTENT), MARK, made(9, new long[] {1, 1, 0}, CONTENT), made(9, Make.bytes(128, 0), CODE, CODE, CODE, new long[] {1, 1, 1}, CONTENT)};
        for (byte[] wrong : all) {
            Check.load(x, Make.head(0));
            Check.fault("a place of 5", x, 1024, 1, 5);
            Check.load(x, wrong);
            Check.due("keep", x.keep(), -31);
            Check.due("place", x.place(), 0);
        }
    }

    private static void counts() {
        Check.says("It counts in FRAMES that tell its number;");
        TabledFrames x = keeping("good", good(), 9);
        byte[][] tells = {Make.head(1, 0, 9), Make.head(2, 0, 9, 0), Make.head(3, 0, 9, 0, 0, 0)};
        for (byte[] head : tells) {
            Check.load(x, Make.join(head, copy(20)));
            Check.due("it counts", x.open(1024), 3);
            Check.told("it counts", x, 7, 1, 2);
        }
        byte[][] others = {Make.head(0, 0), Make.head(1, 0, 0), Make.head(2, 0, 0, 0), Make.head(3, 0, 0, 0, 0, 0)};
        for (byte[] head : others) {
            Check.load(x, Make.join(head, copy(20)));
            Check.fault("it does not count", x, 1024, 18, head.length + 3 + 1 + 5);
            Check.told("it does not count", x, 6, 1, 4, 8);
        }
        Check.load(x, Make.join(Make.head(1, 0, 9), copy(20), Make.head(0, 0), copy(20)));
        Check.fault("in the first, not in the second", x, 1024, 18, 7 + copy(20).length + 6 + 3 + 1 + 5);
    }

    private static void countsByZero() {
        Check.says("one with the number 0 in each.");
        TabledFrames x = keeping("content", CONTENT, 0);
        byte[][] heads = {Make.head(0, 0), Make.head(1, 0, 0), Make.head(2, 0, 0, 0), Make.head(3, 0, 0, 0, 0, 0), Make.head(33, 0, 30)};
        byte[] all = new byte[0];
        for (int i = 0; i < 4; i++) {
            Check.load(x, Make.join(heads[i], copy(20)));
            Check.due("head " + i, x.open(1024), 3);
            Check.cameOut("head " + i, x, Make.text("012"));
            all = Make.join(all, heads[i], copy(20));
        }
        Check.load(x, all);
        Check.due("in each", x.open(1024), 12);
        Check.cameOut("in each", x, Make.text("012012012012"));
        Check.load(x, Make.join(Make.head(1, 0, 9), copy(20)));
        Check.fault("a number that is not 0", x, 1024, 5, 6);
    }

    private static void contentStandsBefore() {
        Check.says("There the CONTENT stands before what comes out,");
        TabledFrames x = keeping("content", CONTENT, 0);
        for (int came = 0; came < 3; came++) {
            byte[] before = Make.join(Make.head(0, 0), Make.block(false, 0, came, Make.first(Make.text("XY"), came)));
            String all = "0123456789abcdefghij" + "XY".substring(0, came);
            for (int offset = 1; offset <= all.length() + 1; offset++) {
                Check.load(x, Make.join(before, copy(offset)));
                if (offset > all.length()) {
                    Check.due("offset " + offset + " behind " + came, x.open(1024), -28);
                    continue;
                }
                Check.due("offset " + offset + " behind " + came, x.open(1024), came + 3);
                StringBuilder out = new StringBuilder(all);
                for (int i = 0; i < 3; i++) {
                    out.append(out.charAt(out.length() - offset));
                }
                Check.cameOut("offset " + offset + " behind " + came, x, Make.text(out.substring(20)));
            }
        }
        byte[] most = new byte[3000];
        most[0] = 'm';
        x = keeping("3000", most, 0);
        Check.load(x, Make.join(Make.head(0, 0), copy(3000)));
        Check.due("offset 3000", x.open(1024), 3);
        Check.cameOut("offset 3000", x, Make.bytes('m', 0, 0));
        Check.load(x, Make.join(Make.head(0, 0), copy(3001)));
        Check.due("offset 3001", x.open(1024), -28);
        byte[] one = Make.text("q");
        x = keeping("one", one, 0);
        Check.load(x, Make.join(Make.head(0, 0), copy(1)));
        Check.due("a content of one", x.open(1024), 3);
        Check.cameOut("a content of one", x, Make.text("qqq"));
    }

    private static void contentBeforeEach() {
        Check.says("stands before what comes out");
        TabledFrames x = keeping("content", CONTENT, 0);
        Check.load(x, Make.join(Make.head(0, 0), Make.block(true, 0, 3, Make.text("XYZ")), Make.head(0, 0), copy(1)));
        Check.due("open", x.open(1024), 6);
        Check.cameOut("not what came out of the frame before", x, Make.text("XYZjjj"));
        byte[] sum = Make.number(RowTest.slowSum(Make.text("jjj")), 4);
        Check.load(x, Make.join(Make.head(4, 0), copy(1), sum));
        Check.due("it is not in the sum", x.open(1024), 3);
        Check.due("nor in what is told", x.told(5), 3);
    }

    private static void usedBefore() {
        Check.says("the tables and the CODE are as if used before.");
        TabledFrames x = keeping("good", good(), 9);
        States[] tables = {new States(6, LETTERS), new States(5, OFFSETS), new States(5, COPIES)};
        byte[] row = Model.sequenceRow(tables, java.util.List.of(new int[] {1, 3, 1}, new int[] {0, 4, 2}));
        byte[] letters = Make.coded(3, 2, Make.reversedText("1" + "01"));
        Check.load(x, Make.join(Make.head(1, 0, 9), Make.packed(true, letters, Make.bytes(2, 0xFC), row)));
        Check.due("open", x.open(1024), 2 + 3 + 4);
        Check.sequence("by the first remembered", x, 0, 1, 3, 1, 1);
        Check.sequence("by the third remembered", x, 1, 0, 4, 2, 20);
        Check.load(x, Make.join(Make.head(0, 0), Make.packed(true, Make.plain(new byte[2]), Make.bytes(2, 0xFC), row)));
        Check.fault("where it does not count", x, 1024, 16, 9 + 3 + 2);
        Check.load(x, Make.join(Make.head(0, 0), Make.packed(true, letters, Make.bytes(2, 0xFC), row)));
        Check.fault("where it does not count", x, 1024, 12, 9);
        x = keeping("content", CONTENT, 0);
        Check.load(x, Make.join(Make.head(0, 0), Make.packed(true, letters, Make.bytes(0))));
        Check.fault("content has no code", x, 1024, 12, 9);
        Check.load(x, Make.join(Make.head(0, 0), Make.packed(true, Make.bytes(0), Make.bytes(1, 0xFC, 1))));
        Check.fault("content has no tables", x, 1024, 16, 10);
    }

    private static void latestBehindIt() {
        Check.says("as if used before");
        TabledFrames x = keeping("good", good(), 9);
        byte[] only = Make.packed(false, Make.bytes(0), Make.onlySymbols(1, 0, 0, 0, Make.bytes(1)));
        byte[] again = Make.packed(true, Make.bytes(0), Make.bytes(1, 0xFC, 1));
        Check.load(x, Make.join(Make.head(1, 0, 9), only, again));
        Check.due("the frame's own are later", x.open(1024), 6);
        Check.due("the frame's own are later", x.table(0, -1, 0), 0);
        byte[] code = Make.packed(false, Make.coded(2, 1, Make.bytes(128, 0x10), Make.reversedText("1")), Make.bytes(0));
        byte[] by = Make.packed(true, Make.coded(3, 2, Make.reversedText("01")), Make.bytes(0));
        Check.load(x, Make.join(Make.head(1, 0, 9), code, by));
        Check.due("the frame's own code is later", x.open(1024), 3);
        Check.cameOut("the frame's own code is later", x, Make.bytes(1, 0, 1));
        Check.load(x, Make.join(Make.head(1, 0, 9), code.clone(), by, Make.head(1, 0, 9), Make.packed(true, Make.coded(3, 2, Make.reversedText("101")), Make.bytes(0))));
        Check.due("in the next frame it is the dictionary's again", x.open(1024), 5);
        Check.cameOut("in the next frame it is the dictionary's again", x, Make.bytes(1, 0, 1, 0, 1));
    }

    /** Each is as if it were the first: nothing of those before is left. */
    private static void oneBehindAnother() {
        Check.says("else all is CONTENT, its number 0.");
        TabledFrames x = new TabledFrames();
        for (int turn = 0; turn < 12; turn++) {
            boolean tabled = turn % 4 < 2;
            byte[] content = Make.same('A' + turn, 20 - turn);
            int number = tabled ? 30 + turn : 0;
            Check.load(x, tabled ? made(number, new long[] {2, 3, 5}, content) : content);
            Check.due("keep " + turn, x.keep(), number);
            byte[] head = tabled ? Make.head(1, 0, number) : Make.head(0, 0);
            Check.load(x, Make.join(head, copy(content.length)));
            Check.due("open " + turn, x.open(1024), 3);
            Check.cameOut("open " + turn, x, Make.same('A' + turn, 3));
            Check.told("open " + turn, x, 7, tabled ? 2 : 1, tabled ? 3 : 4);
            Check.due("a code", x.bits(0), tabled ? 1 : -3);
            Check.load(x, Make.join(head, copy(content.length + 1)));
            Check.due("before the content of " + turn, x.open(1024), -28);
            x.feed(0, 0);
            Check.due("pack " + turn, x.pack(0, 4), tabled ? 10 : 9);
        }
    }
}

import java.util.Arrays;
import java.util.Random;

/** Section 6: what pack() writes, each sentence at its edges; every byte is compared with Model beside. */
final class PackEdges {
    private static final byte[] DIGITS = Make.text("0123456789");

    private PackEdges() {
    }

    static void all() {
        marks();
        numbers();
        sizes();
        spans();
        blocks();
        empty();
        levelZero();
        allTheSame();
        fewer();
        plainChangesNothing();
        packedChanges();
        eightLatest();
        mostBytes();
        fourInTheBlock();
        withinTheBlock();
        inTheContent();
        letterWithoutAPlace();
        values();
        oneLetter();
        whenACode();
        fewerThanLetters();
        formsOfPlain();
        formsOfOne();
        formsOfACode();
        lengths();
        deep();
        toldWeights();
        defaultTables();
        onlySymbols();
        logs();
        leastCount();
        tooManyTogether();
        tooFewTogether();
        upToTheGreatest();
        firstPlaces();
        oneBehindAnother();
    }

    private static byte[] out(TabledFrames x, int n) {
        byte[] all = new byte[Math.max(n, 0)];
        for (int i = 0; i < n; i++) {
            all[i] = (byte) x.out(i);
        }
        return all;
    }

    private static void is(String what, byte[] row, int level, int marks, byte[]... want) {
        TabledFrames x = Check.with(row);
        byte[] all = Make.join(want);
        Check.due(what + ": pack", x.pack(level, marks), all.length);
        Check.cameOut(what, x, all);
    }

    /** Packs and compares, then opens it again; what is told then is of this frame. */
    private static TabledFrames packed(String what, TabledFrames x, Model.Kept kept, byte[] row, int level, int marks) {
        Check.load(x, row);
        byte[] want = Model.pack(row, kept, level, marks);
        Check.due(what + ": pack", x.pack(level, marks), want.length);
        Check.cameOut(what, x, want);
        x.swap();
        Check.due(what + ": open", x.open(8192), row.length);
        Check.cameOut(what + " opened", x, row);
        return x;
    }

    private static TabledFrames packed(String what, byte[] row, int level) {
        return packed(what, new TabledFrames(), null, row, level, 0);
    }

    /** Byte i of THE ROW, which is the frame behind packed(). */
    private static int frameByte(TabledFrames x, int i) {
        int b = x.set(i, 0);
        x.set(i, Math.max(b, 0));
        return b;
    }

    /** The kind of a block whose N3 begins at byte i of the frame. */
    private static int kindAt(TabledFrames x, int i) {
        return frameByte(x, i) >> 1 & 3;
    }

    /** Bytes in which no four come twice. */
    private static byte[] unlike(int n, int seed) {
        byte[] all = new byte[n];
        new Random(seed).nextBytes(all);
        return all;
    }

    /** The first n letters of all words of four of k letters, none of which comes twice. */
    private static byte[] words(int k, int n) {
        int[] a = new int[5];
        StringBuilder all = new StringBuilder();
        lyndon(all, a, 1, 1, k);
        return Make.text(all.substring(0, n));
    }

    private static void lyndon(StringBuilder all, int[] a, int t, int p, int k) {
        if (t > 4) {
            for (int i = 1; 4 % p == 0 && i <= p; i++) {
                all.append((char) a[i]);
            }
            return;
        }
        a[t] = a[t - p];
        lyndon(all, a, t + 1, p, k);
        for (int j = a[t - p] + 1; j < k; j++) {
            a[t] = j;
            lyndon(all, a, t + 1, t, k);
        }
    }

    private static TabledFrames keeping(byte[] dictionary, int number) {
        TabledFrames x = Check.with(dictionary);
        Check.due("keep", x.keep(), number);
        return x;
    }

    private static void marks() {
        Check.says("TO PACK a row, by LEVEL 0, 1, 2, MARKS 1 (a SUM), 2 (ONE, with the SIZE), 4 (with the dictionary; else without, though it is kept), into one FRAME.");
        byte[] ab = Make.text("ab");
        byte[] block = Make.block(true, 0, 2, ab);
        byte[] sum = Make.number(RowTest.slowSum(ab), 4);
        byte[][] want = {Make.join(Make.head(0, 0), block), Make.join(Make.head(4, 0), block, sum), Make.join(Make.head(32, 2), block), Make.join(Make.head(36, 2), block, sum),
            Make.join(Make.head(1, 0, 77), block), Make.join(Make.head(5, 0, 77), block, sum), Make.join(Make.head(33, 77, 2), block), Make.join(Make.head(37, 77, 2), block, sum)};
        TabledFrames x = keeping(DictionaryTest.dictionary(77, new int[] {1, 2, 3}, Make.text("content")), 77);
        for (int level = 0; level < 3; level++) {
            for (int marks = 0; marks < 8; marks++) {
                Check.load(x, ab);
                Check.due("pack(" + level + ", " + marks + ")", x.pack(level, marks), want[marks].length);
                Check.cameOut("pack(" + level + ", " + marks + ")", x, want[marks]);
            }
        }
        byte[] content = unlike(60, 1);
        x = keeping(content, 0);
        Model.Kept kept = new Model.Kept(0, content, new int[] {1, 4, 8});
        Check.due("with it", packed("with it", x, kept, content, 1, 4).told(2), 1);
        Check.due("without, though it is kept", packed("without", x, null, content, 1, 0).told(2), 0);
    }

    private static void numbers() {
        Check.says("The dictionary's number, if it is not 0, in 1, 2, 4 bytes, as few as hold it.");
        long[][] wide = {{1, 1}, {255, 1}, {256, 2}, {65535, 2}, {65536, 4}, {0x7FFFFFFFL, 4}, {0x80000000L, 4}, {0xFFFFFFFFL, 4}};
        for (long[] of : wide) {
            TabledFrames x = keeping(DictionaryTest.dictionary((int) of[0], new int[] {1, 2, 3}, Make.text("content")), (int) of[0]);
            int d = of[1] == 4 ? 3 : (int) of[1];
            byte[] want = Make.join(Make.head(d, 0), Make.number(of[0], (int) of[1]), Make.block(true, 0, 0));
            x.feed(0, 0);
            Check.due("number " + of[0], x.pack(0, 4), want.length);
            Check.cameOut("number " + of[0], x, want);
            want = Make.join(Make.head(32 | d), Make.number(of[0], (int) of[1]), Make.bytes(0), Make.block(true, 0, 0));
            Check.due("number " + of[0] + ", ONE", x.pack(0, 6), want.length);
            Check.cameOut("number " + of[0] + ", ONE", x, want);
        }
        TabledFrames x = keeping(Make.text("content"), 0);
        x.feed(0, 0);
        Check.due("number 0", x.pack(0, 4), 9);
        Check.cameOut("number 0", x, Make.join(Make.head(0, 0), Make.block(true, 0, 0)));
    }

    private static void sizes() {
        Check.says("SIZE: below 256 one byte, else N2.");
        for (int n : new int[] {0, 1, 254, 255, 256, 257, 511, 512, 2048, 6000}) {
            TabledFrames x = new TabledFrames();
            x.fill(n, 1, 0);
            byte[] head = n < 256 ? Make.head(32, n) : Make.join(Make.head(96), Make.number(n - 256, 2));
            Check.due("size " + n, x.pack(0, 2), head.length + 3 * Math.max(1, (n + 2047) / 2048) + n);
            for (int i = 0; i < head.length; i++) {
                Check.due("size " + n + ", byte " + i, x.out(i), head[i] & 255);
            }
            x.swap();
            Check.due("size " + n + ": open", x.open(n), n);
            Check.told("size " + n, x, 9, n, n);
        }
    }

    private static void spans() {
        Check.says("Without 2: no SIZE, SPAN the least 2^(10 + e) that is not below the row's size.");
        int[][] spans = {{0, 0}, {1, 0}, {1023, 0}, {1024, 0}, {1025, 1}, {2047, 1}, {2048, 1}, {2049, 2}, {4096, 2}, {4097, 3}, {6000, 3}};
        for (int[] of : spans) {
            TabledFrames x = new TabledFrames();
            x.fill(of[0], 1, 0);
            for (int marks = 0; marks < 2; marks++) {
                Check.due("pack", x.pack(0, marks) > 0 ? 1 : 0, 1);
                Check.due("kind of " + of[0], x.out(4), 4 * marks);
                Check.due("span of " + of[0], x.out(5), 8 * of[1]);
            }
            x.swap();
            Check.due("open", x.open(8192), of[0]);
            Check.told("span of " + of[0], x, 9, 1024 << of[1], -1);
        }
    }

    private static void blocks() {
        Check.says("BLOCKS of 2048 bytes, the last may have fewer;");
        for (int n : new int[] {1, 2047, 2048, 2049, 4095, 4096, 4097, 6000}) {
            byte[] row = unlike(n, n);
            for (int level = 0; level < 3; level++) {
                byte[] want = Make.head(0, n <= 1024 ? 0 : n <= 2048 ? 8 : n <= 4096 ? 16 : 24);
                for (int from = 0; from < n; from += 2048) {
                    int end = Math.min(n, from + 2048);
                    boolean same = level > 0 && end - from == 1;
                    want = Make.join(want, Make.block(end == n, same ? 1 : 0, end - from, Arrays.copyOfRange(row, from, end)));
                }
                is(n + " bytes", row, level, 0, want);
            }
        }
    }

    private static void empty() {
        Check.says("an empty row has one of 0 bytes, kind 0.");
        for (int level = 0; level < 3; level++) {
            is("level " + level, new byte[0], level, 0, Make.head(0, 0), Make.block(true, 0, 0));
            is("level " + level + ", ONE", new byte[0], level, 2, Make.head(32, 0), Make.block(true, 0, 0));
            is("level " + level + ", a SUM", new byte[0], level, 3, Make.head(36, 0), Make.block(true, 0, 0), Make.number(0x51D8E999L, 4));
        }
    }

    private static void levelZero() {
        Check.says("LEVEL 0: all of kind 0.");
        is("the same", Make.same('s', 100), 0, 2, Make.head(32, 100), Make.block(true, 0, 100, Make.same('s', 100)));
        byte[] twice = Make.join(DIGITS, DIGITS, DIGITS, DIGITS);
        is("what could be a copy", twice, 0, 2, Make.head(32, 40), Make.block(true, 0, 40, twice));
        is("one byte", Make.text("a"), 0, 0, Make.head(0, 0), Make.block(true, 0, 1, Make.text("a")));
    }

    private static void allTheSame() {
        Check.says("Else: if all its bytes are the same, kind 1;");
        for (int level = 1; level < 3; level++) {
            for (int n : new int[] {1, 2, 3, 4, 5, 1024}) {
                is(n + " the same", Make.same('s', n), level, 0, Make.head(0, 0), Make.block(true, 1, n, Make.text("s")));
            }
            is("2048 the same", Make.same(255, 2048), level, 0, Make.head(0, 8), Make.block(true, 1, 2048, Make.bytes(255)));
            is("of each block", Make.join(Make.same('s', 2048), Make.same('t', 7)), level, 0, Make.head(0, 16), Make.block(false, 1, 2048, Make.text("s")), Make.block(true, 1, 7, Make.text("t")));
            byte[] but = Make.same('s', 2048);
            but[2047] = 't';
            Check.due("all but the last", kindAt(packed("all but the last", but, level), 6), 2);
            but = Make.same('s', 2048);
            but[0] = 't';
            Check.due("all but the first", kindAt(packed("all but the first", but, level), 6), 2);
            is("two that are not the same", Make.text("st"), level, 0, Make.head(0, 0), Make.block(true, 0, 2, Make.text("st")));
        }
    }

    /** Ten letters and so many of them again: packed they are 1 + 10 and 1 + 1 + 3 bytes. */
    private static void fewer() {
        Check.says("else it is PACKED, if that takes fewer bytes than it has; else kind 0");
        for (int more = 4; more <= 10; more++) {
            byte[] row = Make.join(DIGITS, Make.first(DIGITS, more));
            for (int level = 1; level < 3; level++) {
                TabledFrames x = packed("so many again, " + more, row, level);
                Check.due(row.length + " bytes", kindAt(x, 6), row.length > 16 ? 2 : 0);
                Check.due(row.length + " bytes, packed", Model.lastBody, 16);
            }
        }
        Check.due("without a copy", kindAt(packed("without a copy", unlike(500, 3), 2), 6), 0);
    }

    /** A first block of 2048 with one copy at 1000 of the bytes 500 before, and a second with five letters and one from 500 before. */
    private static byte[] twoBlocks(int copy) {
        byte[] row = unlike(2200, 4);
        System.arraycopy(row, 500, row, 1000, copy);
        System.arraycopy(row, 1553, row, 2053, 100);
        return row;
    }

    private static void plainChangesNothing() {
        Check.says("(and no REMEMBERED, table, CODE is changed by it).");
        for (int level = 1; level < 3; level++) {
            TabledFrames x = packed("a copy of four", twoBlocks(4), level);
            Check.due("the first is plain", kindAt(x, 6), 0);
            Check.told("the second is packed", x, 1, 2, 1);
            Check.sequence("its offset was not remembered", x, 0, 5, 100, 503, 500);
        }
        byte[] row = Make.join(Make.same('s', 2048), unlike(300, 5), Make.same('s', 40));
        packed("a block of kind 1 between", row, 2);
    }

    /** In the first block offsets 30, 50 and 70; in the second one of these, with a letter before it or without. */
    private static void packedChanges() {
        Check.says("At a FRAME's beginning they are 1, 4, 8, or the dictionary's.");
        Check.says("VALUE: the least one of 1, 2, 3 that means the OFFSET, else 3 more.");
        int[] offsets = {30, 50, 70};
        for (int which = 0; which < 3; which++) {
            for (int letters = 0; letters < 2; letters++) {
                byte[] row = unlike(2148, 6);
                for (int i = 0; i < 3; i++) {
                    int at = 200 + 300 * i;
                    System.arraycopy(row, at - offsets[i], row, at, 25);
                }
                int at = 2048 + letters;
                System.arraycopy(row, at - offsets[which], row, at, 25);
                TabledFrames x = packed("offset " + offsets[which] + " again", row, 1);
                Check.told("both are packed", x, 1, 2, 2);
                int latest = 3 - which;
                int value = letters > 0 ? latest : latest > 1 ? latest - 1 : offsets[which] + 3;
                Check.sequence("offset " + offsets[which] + " again", x, 3, letters, 25, value, offsets[which]);
            }
        }
    }

    /** A word and what is behind it; then the word so often, each time with something else behind; then both again. */
    private static void eightLatest() {
        Check.says("at a byte, of the 8 latest places before it (in the row, and the CONTENT, if it counts) where the next four bytes are the same (all four in the block)");
        for (int between = 5; between <= 10; between++) {
            byte[] tail = unlike(60, 7);
            byte[] row = Make.join(Make.text("WXYZ"), tail);
            for (int i = 0; i < between; i++) {
                row = Make.join(row, Make.text("WXYZ"), unlike(3, 100 + i));
            }
            int at = row.length;
            row = Make.join(row, Make.text("WXYZ"), tail);
            TabledFrames x = packed(between + " between", row, 1);
            if (between <= 7) {
                Check.due("the eighth is looked at", x.told(4), between + 1);
                Check.due("all of it", x.sequence(between, 1), 64);
                Check.due("from the first on", x.sequence(between, 3), at);
            } else {
                Check.due("the ninth is not looked at", x.told(4), between + 2);
                Check.due("the word", x.sequence(between, 1), 4);
                Check.due("from the latest on", x.sequence(between, 3), 7);
                Check.due("then the others", x.sequence(between + 1, 1), 60);
            }
        }
    }

    private static void mostBytes() {
        Check.says("the one from where on most bytes are the same, within the block, of several the latest: a COPY;");
        byte[] a = unlike(40, 8);
        byte[] x1 = Make.join(Make.first(a, 20), unlike(5, 9));
        byte[] x2 = Make.join(Make.first(a, 20), unlike(5, 10));
        TabledFrames x = packed("of two with twenty the latest", Make.join(x1, x2, Make.first(a, 20), unlike(1, 11)), 1);
        Check.sequence("the second", x, 1, 5, 20, 1, 25);
        byte[] x3 = Make.join(Make.first(a, 19), unlike(6, 10));
        x = packed("an earlier one with more", Make.join(x1, x3, Make.first(a, 20), unlike(1, 11)), 1);
        Check.sequence("the first", x, 1, 6, 20, 53, 50);
        byte[] x4 = Make.join(Make.first(a, 21), unlike(4, 10));
        x = packed("a later one with more", Make.join(x1, x4, Make.first(a, 21), unlike(1, 11)), 1);
        Check.sequence("the later", x, 1, 5, 21, 1, 25);
        x = packed("into itself", Make.join(a, Make.same('r', 30)), 1);
        Check.sequence("into itself", x, 0, 41, 29, 1, 1);
    }

    private static void fourInTheBlock() {
        Check.says("where the next four bytes are the same (all four in the block)");
        byte[] a = unlike(40, 12);
        for (int again = 3; again <= 5; again++) {
            byte[] row = Make.join(a, Make.first(a, 30), unlike(2, 13), Make.first(a, again));
            TabledFrames x = packed(again + " at the row's end", row, 1);
            Check.due(again + " at the row's end", x.told(4), again < 4 ? 1 : 2);
            Check.due("letters", x.told(3), 42 + (again < 4 ? again : 0));
        }
        for (int at = 2043; at <= 2046; at++) {
            byte[] row = unlike(2200, 14);
            System.arraycopy(row, 100, row, 200, 50);
            System.arraycopy(row, 1000, row, at, 60);
            TabledFrames x = packed("at " + at, row, 1);
            boolean fits = at <= 2044;
            Check.due("one at the first block's end, if all four are in it", x.told(4), fits ? 3 : 2);
            Check.due("as far as the block goes", x.sequence(1, 1), fits ? 2048 - at : 60 - (2048 - at));
        }
    }

    private static void withinTheBlock() {
        Check.says("most bytes are the same, within the block,");
        byte[] row = unlike(2500, 15);
        System.arraycopy(row, 0, row, 1900, 400);
        TabledFrames x = packed("across a block's end", row, 1);
        Check.told("across a block's end", x, 1, 2, 2);
        Check.sequence("up to the end", x, 0, 1900, 148, 1903, 1900);
        Check.sequence("and again behind it", x, 1, 0, 252, 1903, 1900);
        byte[] far = unlike(4200, 16);
        System.arraycopy(far, 2040, far, 4096, 50);
        x = packed("from before a block's end on", far, 1);
        Check.due("the place may lie across a block's end", x.sequence(0, 1), 50);
        byte[] most = Make.same('m', 2048);
        most[0] = 'n';
        x = packed("the most", most, 1);
        Check.sequence("the most", x, 0, 2, 2046, 1, 1);
    }

    private static void inTheContent() {
        Check.says("(in the row, and the CONTENT, if it counts)");
        byte[] content = unlike(3000, 17);
        TabledFrames x = keeping(content, 0);
        Model.Kept kept = new Model.Kept(0, content, new int[] {1, 4, 8});
        packed("its first bytes", x, kept, Make.first(content, 30), 1, 4);
        Check.sequence("its first bytes", x, 0, 0, 30, 3003, 3000);
        byte[] last = Arrays.copyOfRange(content, 2970, 3000);
        packed("its last bytes", x, kept, last, 1, 4);
        Check.sequence("its last bytes", x, 0, 0, 30, 33, 30);
        byte[] across = Make.join(Arrays.copyOfRange(content, 2998, 3000), Make.text("pq"));
        byte[] row = Make.join(Make.text("pq"), unlike(30, 18), across, unlike(3, 19), Make.first(content, 40));
        packed("across its end", x, kept, row, 1, 4);
        Check.sequence("across its end", x, 0, 32, 4, 37, 34);
        packed("not if it does not count", x, null, Make.first(content, 30), 1, 0);
        Check.told("not if it does not count", x, 1, 1, 0);
        byte[] latest = Make.join(Make.first(content, 30), unlike(5, 20), Make.first(content, 30));
        packed("the row's are later", x, kept, latest, 1, 4);
        Check.sequence("the row's are later", x, 1, 5, 30, 38, 35);
    }

    private static void letterWithoutAPlace() {
        Check.says("without such a place it is a letter.");
        byte[] a = unlike(50, 21);
        byte[] row = Make.join(a, Make.first(a, 3), unlike(1, 22), Make.first(a, 40));
        TabledFrames x = packed("three are no copy", row, 1);
        Check.sequence("three are no copy", x, 0, 54, 40, 57, 54);
        Check.due("one alone", x.told(4), 1);
    }

    /** The first eight bytes of the row are those of the content at the OFFSET, with a letter before them or without. */
    private static void value(int[] remembered, int letters, int offset, int want) {
        byte[] content = unlike(100, 23);
        TabledFrames x = keeping(DictionaryTest.dictionary(5, remembered, content), 5);
        byte[] row = new byte[letters + 40];
        Arrays.fill(row, 0, letters, (byte) 'l');
        byte[] all = Make.join(content, row);
        for (int i = 100 + letters; i < all.length; i++) {
            all[i] = all[i - offset];
        }
        row = Arrays.copyOfRange(all, 100, all.length);
        packed("value", x, new Model.Kept(5, content, remembered), row, 1, 4);
        String what = Arrays.toString(remembered) + " with " + letters + " letters";
        Check.sequence(what, x, 0, letters, 40, want, offset);
    }

    private static void values() {
        Check.says("VALUE: the least one of 1, 2, 3 that means the OFFSET, else 3 more.");
        value(new int[] {50, 60, 70}, 1, 50, 1);
        value(new int[] {50, 60, 70}, 1, 60, 2);
        value(new int[] {50, 60, 70}, 1, 70, 3);
        value(new int[] {50, 60, 70}, 1, 80, 83);
        value(new int[] {50, 60, 70}, 1, 49, 52);
        value(new int[] {50, 60, 70}, 0, 60, 1);
        value(new int[] {50, 60, 70}, 0, 70, 2);
        value(new int[] {50, 60, 70}, 0, 49, 3);
        value(new int[] {50, 60, 70}, 0, 50, 53);
        value(new int[] {50, 50, 50}, 1, 50, 1);
        value(new int[] {60, 50, 50}, 1, 50, 2);
        value(new int[] {60, 50, 50}, 0, 50, 1);
        value(new int[] {51, 60, 50}, 0, 50, 2);
        value(new int[] {51, 50, 60}, 0, 50, 1);
        value(new int[] {51, 60, 70}, 0, 50, 3);
        value(new int[] {1, 2, 3}, 0, 100, 103);
    }

    /** Bytes above 127 alone, in which no four come twice. */
    private static byte[] content(int seed) {
        byte[] all = unlike(2900, seed);
        for (int i = 0; i < all.length; i++) {
            all[i] |= (byte) 128;
        }
        return all;
    }

    /** Copies of these lengths by the content, from a place of its own each, none of which goes on into the next; a letter before each. */
    private static byte[] lettered(byte[] content, byte[] letters, int... lengths) {
        int n = Math.max(1, lengths.length);
        int each = (content.length - Arrays.stream(lengths).max().orElse(0) - 2) / n;
        byte[] row = new byte[0];
        int end = 0;
        for (int i = 0; i < lengths.length; i++) {
            int from = i * 7919 % n * each;
            from += content[from] == content[end] ? 1 : 0;
            end = from + lengths[i];
            row = Make.join(row, Arrays.copyOfRange(letters, Math.min(i, letters.length), Math.min(i + 1, letters.length)), Arrays.copyOfRange(content, from, end));
        }
        return row;
    }

    /** Each letter before a copy of five. */
    private static byte[] lettered(byte[] content, byte[] letters) {
        int[] lengths = new int[letters.length + 8];
        Arrays.fill(lengths, 5);
        return lettered(content, letters, lengths);
    }

    private static Model.Kept kept(byte[] content) {
        return new Model.Kept(0, content, new int[] {1, 4, 8});
    }

    /** Any letters, each before a copy of five, packed; they begin at byte 9 of the frame. */
    private static TabledFrames packedLetters(String what, byte[] letters, int level) {
        byte[] content = content(24);
        TabledFrames x = keeping(content, 0);
        packed(what, x, kept(content), lettered(content, letters), level, 6);
        Check.due(what + ": it is packed", x.told(2), 1);
        Check.due(what + ": letters", x.told(3), letters.length);
        return x;
    }

    private static int lettersAt(TabledFrames x) {
        return x.told(10) < 256 ? 9 : 10;
    }

    private static void oneLetter() {
        Check.says("LETTERS: more than one, all the same: kind 1.");
        for (int level = 1; level < 3; level++) {
            for (int n = 0; n <= 4; n++) {
                TabledFrames x = packedLetters(n + " letters", Make.same('x', n), level);
                Check.due(n + " letters: their kind and size", frameByte(x, lettersAt(x)), n > 1 ? 1 | n << 3 : n << 3);
            }
            TabledFrames x = packedLetters("two different ones", Make.text("xxy"), level);
            Check.due("two different ones", frameByte(x, lettersAt(x)), 3 << 3);
            x = packedLetters("two different ones", Make.text("yxx"), level);
            Check.due("two different ones", frameByte(x, lettersAt(x)), 3 << 3);
        }
    }

    private static int kindOfLetters(byte[] letters, int level) {
        TabledFrames x = packedLetters(letters.length + " letters", letters, level);
        return frameByte(x, lettersAt(x)) & 3;
    }

    private static void whenACode() {
        Check.says("LEVEL 2, at least 32, all below 128, two different ones: kind 2,");
        for (int n = 30; n <= 34; n++) {
            byte[] two = new byte[n];
            for (int i = 0; i < n; i += 2) {
                two[i] = 1;
            }
            Check.due(n + " letters", kindOfLetters(two, 2), n < 32 ? 0 : 2);
            Check.due(n + " letters at level 1", kindOfLetters(two, 1), 0);
            Check.due(n + " the same", kindOfLetters(Make.same(1, n), 2), 1);
            byte[] last = new byte[n];
            last[n - 1] = 1;
            Check.due(n + " of which the last is different", kindOfLetters(last, 2), n < 32 ? 0 : 2);
        }
        for (int at : new int[] {0, 100, 199}) {
            byte[] letters = words(4, 200);
            letters[at] = 127;
            Check.due("127 at " + at, kindOfLetters(letters, 2), 2);
        }
        for (int at : new int[] {0, 100, 199}) {
            for (int b : new int[] {126, 127, 128, 255}) {
                byte[] letters = unlikeLow(200, 35);
                letters[at] = (byte) b;
                TabledFrames x = packed(b + " at " + at, Make.join(letters, Make.same(letters[199], 300)), 2);
                Check.due(b + " at " + at, frameByte(x, 9) & 3, b < 128 ? 2 : 0);
            }
        }
    }

    /** Bytes below 8, in which no four come twice. */
    private static byte[] unlikeLow(int n, int seed) {
        byte[] all = new byte[n];
        Random random = new Random(seed);
        for (int i = 0; i < n; ) {
            int next = random.nextInt(8);
            if (fits(all, i, next)) {
                all[i++] = (byte) next;
            }
        }
        return all;
    }

    /** Whether a next letter makes no word of four that came before. */
    private static boolean fits(byte[] letters, int n, int next) {
        for (int i = 0; n >= 3 && i + 3 < n; i++) {
            if (letters[i] == letters[n - 3] && letters[i + 1] == letters[n - 2] && letters[i + 2] == letters[n - 1] && letters[i + 3] == next) {
                return false;
            }
        }
        return true;
    }

    /** 64 letters of four symbols, 16 of each: a stream of 17 bytes, and a code of a byte and half the greatest symbol. */
    private static void fewerThanLetters() {
        Check.says("if then the CODE, sizes and STREAMS together have fewer bytes than there are letters; else kind 0.");
        for (int greatest = 86; greatest <= 95; greatest++) {
            byte[] letters = new byte[64];
            for (int i = 0; i < 64; i++) {
                letters[i] = (byte) (i % 4 == 3 ? greatest : i % 4);
            }
            int together = 1 + (greatest + 1) / 2 + 17;
            Check.due(together + " bytes", kindOfLetters(letters, 2), together < 64 ? 2 : 0);
        }
        for (int greatest = 96; greatest <= 127; greatest++) {
            byte[] letters = new byte[300];
            for (int i = 0; i < 300; i++) {
                letters[i] = (byte) (i < 128 ? i % (greatest + 1) : i % 127 == 0 ? greatest : i % 100);
            }
            letters[299] = (byte) greatest;
            packedLetters("four streams, up to " + greatest, letters, 2);
        }
    }

    private static void formsOfPlain() {
        Check.says("Form of 0, 1: the least that holds the size (below 32, 4096).");
        for (int n : new int[] {20, 30, 31, 32, 33, 255, 256, 1000, 1023}) {
            byte[] letters = unlike(n, 26);
            TabledFrames x = packed(n + " plain letters", Make.join(letters, letters), 1);
            Check.due(n + " plain letters", x.told(3), n);
            if (n < 32) {
                Check.due(n + " in a byte", frameByte(x, 9), n << 3);
            } else {
                Check.due(n + " in two", frameByte(x, 9) | frameByte(x, 10) << 8, 4 | n << 4);
            }
        }
    }

    private static void formsOfOne() {
        Check.says("Form of 0, 1: the least that holds the size");
        for (int n : new int[] {2, 30, 31, 32, 33, 255, 256, 300}) {
            TabledFrames x = packedLetters(n + " of one", Make.same('x', n), 1);
            int at = lettersAt(x);
            if (n < 32) {
                Check.due(n + " of one in a byte", frameByte(x, at), 1 | n << 3);
            } else {
                Check.due(n + " of one in two", frameByte(x, at) | frameByte(x, at + 1) << 8, 5 | n << 4);
            }
            Check.due("which is all of them", frameByte(x, n < 32 ? at + 1 : at + 2), 'x');
        }
    }

    private static void formsOfACode() {
        Check.says("Of 2: 0, if the size and what follows are below 1024 and the size is below 256; else 1, if both are below 1024; else 2.");
        int[][] forms = {{32, 0}, {254, 0}, {255, 0}, {256, 1}, {257, 1}, {1022, 1}, {1023, 1}, {1024, 2}, {1025, 2}, {2000, 2}, {2048, 2}};
        for (int[] of : forms) {
            byte[] letters = Make.join(Make.bytes(9), words(7, of[0] - 1));
            TabledFrames x = packed(of[0] + " letters", letters, 2);
            Check.due(of[0] + " letters", x.told(3), of[0]);
            Check.due(of[0] + " letters: kind and form", frameByte(x, 9) & 15, 2 | of[1] << 2);
        }
    }

    private static void lengthsOf(String what, int[] often, int... want) {
        byte[] letters = new byte[Arrays.stream(often).sum()];
        int n = 0;
        for (int s = 0; s < often.length; s++) {
            for (int i = 0; i < often[s]; i++) {
                letters[n++] = (byte) s;
            }
        }
        TabledFrames x = packedLetters(what, letters, 2);
        for (int s = 0; s < want.length; s++) {
            Check.due(what + ": bits of " + s, x.bits(s), want[s]);
        }
    }

    private static int[] often(int... few) {
        return few;
    }

    private static void lengths() {
        Check.says("as long as there are two trees the two least (of the same: symbols before joined ones, the lesser one, the one joined first) are joined;");
        lengthsOf("two", often(39, 1), 1, 1);
        lengthsOf("three", often(30, 20, 10), 1, 2, 2);
        lengthsOf("three of the same: the two lesser ones", often(20, 20, 20), 2, 2, 1);
        lengthsOf("four of the same", often(20, 20, 20, 20), 2, 2, 2, 2);
        lengthsOf("five of the same: the two lesser ones", often(20, 20, 20, 20, 20), 3, 3, 2, 2, 2);
        lengthsOf("six of the same: those joined first", often(20, 20, 20, 20, 20, 20), 3, 3, 3, 3, 2, 2);
        lengthsOf("a symbol before a joined one", often(10, 10, 20, 30), 3, 3, 2, 1);
        lengthsOf("a symbol before a joined one, four of the same", often(10, 10, 10, 10, 20), 3, 3, 2, 2, 2);
        lengthsOf("a symbol before a joined one, the greatest of all", often(10, 10, 20, 20), 2, 2, 2, 2);
        lengthsOf("two joined ones before a greater symbol", often(10, 10, 10, 10, 50), 3, 3, 3, 3, 1);
        lengthsOf("some between that do not come", often(15, 0, 0, 30, 15, 0, 15), 2, 0, 0, 2, 2, 0, 2);
    }

    /** Of those that Model finds 11 and 12 deep; the latter have their numbers halved. */
    private static void deep() {
        Check.says("if one is deeper than 11, all numbers n become (n + 1) / 2, and again;");
        int[] few = {1, 1, 1, 3, 4, 7, 11, 18, 29};
        int[] found = new int[40];
        for (int turn = 0; turn < 100; turn++) {
            Random random = new Random(turn);
            int[] often = new int[128];
            int chain = 5 + turn % 5;
            int each = 12 + random.nextInt(40);
            for (int i = 0; i < chain + 1700 / (each + 4); i++) {
                int s = random.nextInt(128);
                often[s] = often[s] > 0 ? often[s] : i < chain ? few[i] : each + random.nextInt(8);
            }
            int[] before = Model.DEPTHS.clone();
            TabledFrames x = packed("deep " + turn, PackTest.lettersSoOften(often, random), 2);
            int depth = 0;
            for (int i = 0; i < 40; i++) {
                depth = Model.DEPTHS[i] > before[i] ? i : depth;
            }
            found[depth]++;
            int longest = 0;
            for (int s = 0; s < 128; s++) {
                longest = Math.max(longest, x.bits(s));
            }
            Check.due("depth " + depth, depth <= 11 ? longest : Math.min(longest, 11), depth <= 11 ? depth : longest);
        }
        Check.due("just 11", found[11] > 0 ? 1 : 0, 1);
        Check.due("just 12", found[12] > 0 ? 1 : 0, 1);
    }

    private static void toldWeights() {
        Check.says("WEIGHTS as they are (b above 127), of all symbols below the greatest.");
        for (int greatest : new int[] {1, 2, 3, 4, 64, 126, 127}) {
            byte[] letters = new byte[120];
            for (int i = 0; i < 120; i += 2) {
                letters[i] = (byte) greatest;
            }
            TabledFrames x = packedLetters("greatest " + greatest, letters, 2);
            int at = lettersAt(x) + 3;
            Check.due("greatest " + greatest + ": b", frameByte(x, at), 127 + greatest);
            Check.due("greatest " + greatest + ": the first weight", frameByte(x, at + 1), 0x10);
            for (int i = 2; i <= (greatest + 1) / 2; i++) {
                Check.due("greatest " + greatest + ": others are 0", frameByte(x, at + i), 0);
            }
            Check.due("the greatest has a bit", x.bits(greatest), 1);
        }
        TabledFrames x = packedLetters("two weights in a byte", new byte[] {0, 0, 0, 0, 0, 0, 0, 0, 0, 0, 0, 0, 0, 0, 0, 0, 0, 0, 0, 0, 1, 1, 1, 1, 1, 1, 1, 1, 1, 1, 2, 2, 2, 2, 2}, 2);
        Check.due("2 and 1", frameByte(x, lettersAt(x) + 4), 0x21);
    }

    /** So many copies of the content, each of a length of its own in turn, with or without letters between. */
    private static byte[] copies(byte[] content, int n, int least, int kinds, boolean letters) {
        byte[] row = new byte[0];
        for (int i = 0; i < n; i++) {
            int length = least + i % kinds;
            int from = (i * 97 + i * i * 13) % (content.length - length - 1);
            row = Make.join(row, Arrays.copyOfRange(content, from, from + length), letters && i % 3 == 0 ? Make.bytes(200 + i % 5) : new byte[0]);
        }
        return row;
    }

    private static void defaultTables() {
        Check.says("SEQUENCES, at LEVEL 1, or fewer than 8 of them: DEFAULT tables (0).");
        byte[] content = unlike(2900, 30);
        TabledFrames x = keeping(content, 0);
        Model.Kept kept = new Model.Kept(0, content, new int[] {1, 4, 8});
        int[] logs = {6, 5, 6};
        for (int level = 1; level < 3; level++) {
            for (int n = 6; n <= 9; n++) {
                packed(n + " sequences", x, kept, copies(content, n, 20, 4, true), level, 4);
                Check.due("so many", x.told(4), n);
                for (int kind = 0; kind < 3; kind++) {
                    boolean byDefault = level == 1 || n < 8;
                    Check.due(n + " sequences at level " + level + ": l of kind " + kind, x.table(kind, -1, 0), byDefault ? logs[kind] : 5);
                    if (byDefault) {
                        States.byDefault(kind).compare("default", x, kind);
                    }
                }
            }
        }
    }

    private static void onlySymbols() {
        Check.says("Else for each kind: 1, if there is one symbol alone;");
        byte[] content = unlike(2900, 31);
        TabledFrames x = keeping(content, 0);
        Model.Kept kept = new Model.Kept(0, content, new int[] {1, 4, 8});
        packed("copies of one length", x, kept, copies(content, 10, 20, 1, false), 2, 4);
        Check.due("letters", x.table(0, -1, 0), 0);
        Check.due("letters", x.table(0, 0, 0), 0);
        Check.due("copies", x.table(2, -1, 0), 0);
        Check.due("copies", x.table(2, 0, 0), 17);
        packed("copies of two lengths", x, kept, copies(content, 10, 20, 2, false), 2, 4);
        Check.due("letters", x.table(0, -1, 0), 0);
        Check.due("copies", x.table(2, -1, 0), 5);
        packed("lengths of one symbol", x, kept, copies(content, 10, 35, 2, false), 2, 4);
        Check.due("copies", x.table(2, -1, 0), 0);
        Check.due("copies", x.table(2, 0, 0), 32);
        packed("lengths of two symbols", x, kept, copies(content, 10, 36, 2, false), 2, 4);
        Check.due("copies", x.table(2, -1, 0), 5);
    }

    private static void logs() {
        Check.says("else 2: l is 5 for fewer than 32, 6 below 128, else 7;");
        byte[] content = unlike(2900, 32);
        TabledFrames x = keeping(content, 0);
        Model.Kept kept = new Model.Kept(0, content, new int[] {1, 4, 8});
        for (int n : new int[] {8, 30, 31, 32, 33, 126, 127, 128, 129, 200}) {
            packed(n + " sequences", x, kept, copies(content, n, 5, 3, true), 2, 4);
            Check.due("so many", x.told(4), n);
            for (int kind = 0; kind < 3; kind++) {
                Check.due(n + " sequences: l of kind " + kind, x.table(kind, -1, 0), n < 32 ? 5 : n < 128 ? 6 : 7);
            }
        }
    }

    /** How many places a symbol has in the table of copies. */
    private static int placesOf(TabledFrames x, int symbol) {
        int n = 0;
        for (int i = 0; x.table(2, i, 0) >= 0; i++) {
            n += x.table(2, i, 0) == symbol ? 1 : 0;
        }
        return n;
    }

    private static byte[] ofLengths(byte[] content, int... lengths) {
        return lettered(content, new byte[0], lengths);
    }

    private static int[] lengthsSoOften(int... often) {
        int[] all = new int[0];
        for (int s = 0; s < often.length; s++) {
            int[] more = Arrays.copyOf(all, all.length + often[s]);
            Arrays.fill(more, all.length, more.length, s + 5);
            all = more;
        }
        return all;
    }

    private static TabledFrames packedLengths(String what, int... often) {
        byte[] content = unlike(2900, 33);
        TabledFrames x = keeping(content, 0);
        int[] lengths = lengthsSoOften(often);
        packed(what, x, new Model.Kept(0, content, new int[] {1, 4, 8}), ofLengths(content, lengths), 2, 4);
        Check.due(what + ": so many", x.told(4), lengths.length);
        return x;
    }

    private static void countsAre(String what, TabledFrames x, int... want) {
        for (int s = 0; s < want.length; s++) {
            Check.due(what + ": places of the symbol of " + (s + 5), placesOf(x, s + 2), want[s]);
        }
    }

    private static void leastCount() {
        Check.says("COUNTS c 2^l / n (down, of n SEQUENCES c with this symbol), 1 at least;");
        countsAre("halves", packedLengths("halves", 8, 8), 16, 16);
        countsAre("down", packedLengths("down", 5, 5, 6), 10, 10, 12);
        countsAre("one of 40", packedLengths("one of 40", 39, 1), 63, 1);
        countsAre("one of 100: 64 / 100 is 0", packedLengths("one of 100", 99, 1), 63, 1);
        countsAre("none has none", packedLengths("none", 8, 0, 8), 16, 0, 16);
    }

    private static void tooManyTogether() {
        Check.says("as long as they are too many together the greatest (the first of the same) is 1 less;");
        countsAre("one less of the greatest", packedLengths("one less", 60, 35, 1, 1, 1, 1, 1), 37, 22, 1, 1, 1, 1, 1);
        countsAre("one less of the second", packedLengths("one less", 35, 60, 1, 1, 1, 1, 1), 22, 37, 1, 1, 1, 1, 1);
        countsAre("one less of the first of the same", packedLengths("one less", 48, 47, 1, 1, 1, 1, 1), 29, 30, 1, 1, 1, 1, 1);
        countsAre("one less of each", packedLengths("two less", 47, 47, 1, 1, 1, 1, 1, 1), 29, 29, 1, 1, 1, 1, 1, 1);
        countsAre("two less and one", packedLengths("three less", 46, 44, 1, 1, 1, 1, 1, 1, 1, 1, 1, 1), 27, 27, 1, 1, 1, 1, 1, 1, 1, 1, 1, 1);
        countsAre("none less", packedLengths("none less", 50, 48, 1, 1), 32, 30, 1, 1);
    }

    private static void tooFewTogether() {
        Check.says("if they are too few, the greatest (the first) has the rest more.");
        countsAre("thirds", packedLengths("thirds", 3, 3, 3), 12, 10, 10);
        countsAre("the second is the greatest", packedLengths("the second", 3, 4, 4), 8, 13, 11);
        countsAre("nine of one each", packedLengths("nine", 1, 1, 1, 1, 1, 1, 1, 1, 1), 8, 3, 3, 3, 3, 3, 3, 3, 3);
    }

    private static void upToTheGreatest() {
        Check.says("They are told up to the greatest symbol that comes.");
        TabledFrames x = packedLengths("up to 7", 4, 4, 4);
        Check.due("no symbol above", placesOf(x, 5), 0);
        byte[] content = unlike(2900, 34);
        x = keeping(content, 0);
        Model.Kept kept = new Model.Kept(0, content, new int[] {1, 4, 8});
        for (int longest : new int[] {34, 35, 66, 67, 300, 700, 1100}) {
            packed("up to " + longest, x, kept, ofLengths(content, 5, 5, 5, 5, 5, 5, 5, longest), 2, 4);
            Check.due("up to " + longest, x.told(4), 8);
            Check.due("up to " + longest, x.sequence(7, 1), longest);
        }
    }

    private static void firstPlaces() {
        Check.says("The STATES at the last SEQUENCE are the first places of their symbols. (Each other one is then what leads there.)");
        byte[] row = Make.join(DIGITS, DIGITS);
        States[] tables = {States.byDefault(0), States.byDefault(1), States.byDefault(2)};
        byte[] bits = Make.reversed(tables[0].first(10), 6, tables[1].first(3), 5, tables[2].first(7), 6, 5, 3);
        is("one sequence", row, 1, 2, Make.head(32, 20), Make.packed(true, Make.bytes(10 << 3), DIGITS, Make.bytes(1, 0), bits));
        byte[] two = Make.join(row, Make.text("-"), DIGITS);
        int[] before = {tables[0].before(10, tables[0].first(1)), tables[1].before(3, tables[1].first(3)), tables[2].before(7, tables[2].first(7))};
        byte[] twoBits = Make.reversed(before[0], 6, before[1], 5, before[2], 6, 5, 3,
            tables[0].first(1) - tables[0].base[before[0]], tables[0].bits[before[0]],
            tables[2].first(7) - tables[2].base[before[2]], tables[2].bits[before[2]],
            tables[1].first(3) - tables[1].base[before[1]], tables[1].bits[before[1]], 14 - 8, 3);
        is("two sequences", two, 1, 2, Make.head(32, 31), Make.packed(true, Make.bytes(11 << 3), DIGITS, Make.text("-"), Make.bytes(2, 0), twoBits));
    }

    /** One object packs many rows, of fewer and of more bytes, letters and sequences: each is as if it were the first. */
    private static void oneBehindAnother() {
        Check.says("TO PACK a row,");
        byte[] content = content(36);
        TabledFrames x = keeping(content, 0);
        for (int turn = 0; turn < 60; turn++) {
            Random random = new Random(turn);
            byte[] letters = new byte[turn % 4 * 70];
            int kinds = 2 + random.nextInt(120);
            for (int i = 0; i < letters.length; i++) {
                letters[i] = (byte) random.nextInt(kinds);
            }
            byte[] row = turn % 5 == 4 ? unlike(turn * 100, turn) : lettered(content, letters);
            int[] lengths = lengthsSoOften(turn % 7 * 5, 9 - turn % 10, turn % 3, 2);
            packed("turn " + turn, x, kept(content), row, 1 + turn % 2, 4);
            packed("turn " + turn + ", copies", x, kept(content), ofLengths(content, lengths), 2, 4);
            packed("turn " + turn + ", without it", x, null, row, 2, turn % 4);
        }
    }
}

/** Section 1: heads, blocks, sums and faults 1 to 9, each at its edges. */
final class FramesEdges {
    private static final byte[] ABC = Make.text("abc");
    private static final byte[] LAST_ABC = Make.block(true, 0, 3, ABC);
    private static final byte[] PASSED = Make.join(Make.number(407710293L, 4), Make.number(3, 4), Make.bytes(0x28, 0xB5, 0x2F));
    private static final int DICTIONARY_NUMBER = 0x01020304;

    private FramesEdges() {
    }

    static void all() {
        toItsEnd();
        passedOver();
        kinds();
        spans();
        numbers();
        sizes();
        sizeIsTheSpan();
        spanWithoutASign();
        anotherNumber();
        limits();
        blocks();
        emptyBlocks();
        sums();
        lacking();
        cutOff();
        lackingSizes();
        anotherMark();
        tooMany();
        tooManyPacked();
        anotherSize();
        anotherSum();
        places();
        orderInHeads();
        orderInBlocks();
        orderBehindBlocks();
    }

    /** The fault, at the row's beginning and behind a frame that is passed over. */
    private static TabledFrames fault(String what, byte[] frame, long most, int fault, int place) {
        Check.fault(what + ", behind another frame", Check.with(Make.join(PASSED, frame)), most, fault, PASSED.length + place);
        return Check.fault(what, Check.with(frame), most, fault, place);
    }

    private static TabledFrames fault(String what, byte[] frame, int fault, int place) {
        return fault(what, frame, Long.MAX_VALUE, fault, place);
    }

    private static byte[] summed(byte[] head, byte[] out) {
        return Make.join(head, Make.block(true, 0, out.length, out), Make.number(RowTest.slowSum(out), 4));
    }

    private static byte[] small() {
        return Make.join(Make.head(0, 0), LAST_ABC);
    }

    private static void toItsEnd() {
        Check.says("A row is opened FRAME by FRAME, to its end; none is fine.");
        TabledFrames x = Check.fine("none", new byte[0], 0);
        Check.told("none", x, 0, 0, 0, 0, 0, 0, 0, 0, 0, 0, 0, 0, 0);
        byte[] all = new byte[0];
        byte[] out = new byte[0];
        for (int n = 1; n <= 5; n++) {
            all = Make.join(all, small());
            out = Make.join(out, ABC);
            x = Check.fine(n + " frames", all, out);
            Check.told(n + " frames", x, 0, n, n);
        }
        byte[] least = Make.join(Make.head(32, 0), Make.block(true, 0, 0));
        byte[] many = new byte[0];
        for (int n = 0; n < 888; n++) {
            many = Make.join(many, least);
        }
        Check.told("888 frames", Check.fine("888 frames", many, 0), 0, 888, 888);
        Check.fault("a byte behind", Make.join(many, Make.bytes(0x28)), 1, 888 * 9 + 1);
    }

    private static void passedOver() {
        Check.says("N4 407710288 to 407710303: N4 n and n bytes are passed over.");
        for (long mark = 407710287L; mark <= 407710304L; mark++) {
            byte[] frame = Make.join(Make.number(mark, 4), Make.number(3, 4), ABC);
            if (mark < 407710288L || mark > 407710303L) {
                Check.fault("mark " + mark, frame, 2, 0);
            } else {
                TabledFrames x = Check.fine("mark " + mark, Make.join(frame, small(), frame), ABC);
                Check.told("mark " + mark, x, 0, 1, 1);
                Check.due("mark " + mark, x.told(11), 2);
            }
        }
        byte[] mark = Make.number(407710288L, 4);
        Check.due("none", Check.fine("none", Make.join(mark, Make.number(0, 4)), 0).told(11), 1);
        Check.due("all of a full row", Check.fine("all", Make.join(mark, Make.number(7992, 4), new byte[7992]), 0).told(11), 1);
        for (long n : new long[] {4, 7993, 256 + 3, 65536 + 3, (1 << 24) + 3, 0x7FFFFFFFL, 0x80000000L, 0xFFFFFFFCL, 0xFFFFFFFFL}) {
            TabledFrames x = Check.fault(n + " of three", Make.join(mark, Make.number(n, 4), ABC), 1, 11);
            Check.due("it was not passed over", x.told(11), 0);
        }
        byte[] thousand = new byte[0];
        for (int i = 0; i < 1000; i++) {
            thousand = Make.join(thousand, mark, Make.number(0, 4));
        }
        Check.due("a thousand", Check.fine("a thousand", thousand, 0).told(11), 1000);
    }

    /** What comes out of a frame whose SIZE has the form f, the least that each form can tell. */
    private static byte[] outOf(int f) {
        return Make.same('q', f == 1 ? 256 : 3);
    }

    private static byte[] frameOfKind(int kind) {
        int f = kind >> 6;
        boolean one = (kind & 32) != 0;
        int size = outOf(f).length;
        byte[] told = f == 0 ? Make.number(size, one ? 1 : 0) : f == 1 ? Make.number(0, 2) : Make.number(size, f == 2 ? 4 : 8);
        byte[] sum = (kind & 4) != 0 ? Make.number(RowTest.slowSum(outOf(f)), 4) : new byte[0];
        return Make.join(Make.head(kind), one ? new byte[0] : Make.bytes(0), new byte[new int[] {0, 1, 2, 4}[kind & 3]], told,
            Make.block(true, 1, size, Make.bytes('q')), sum);
    }

    private static void kinds() {
        Check.says("its two highest bits f, 32 ONE (no SPAN is told), 16 counts nothing, 8 is FAULT 3, 4 a SUM is behind, the lowest two d.");
        for (int kind = 0; kind < 256; kind++) {
            if ((kind & 8) != 0) {
                fault("kind " + kind, frameOfKind(kind), 3, 4);
                continue;
            }
            byte[] out = outOf(kind >> 6);
            TabledFrames x = Check.fine("kind " + kind, frameOfKind(kind), out);
            boolean one = (kind & 32) != 0;
            Check.told("kind " + kind, x, 9, one ? out.length : 1024, one || kind >> 6 > 0 ? out.length : -1);
            byte[] frame = frameOfKind(kind);
            Check.fault("kind " + kind + ", a byte less", Make.first(frame, frame.length - 1), 1, frame.length - 1);
        }
    }

    private static void spans() {
        Check.says("Unless ONE: a byte b, the SPAN: 2^(10 + b / 8) and b % 8 times an eighth of that.");
        for (int b = 0; b < 256; b++) {
            long span = (8L + b % 8) << (7 + b / 8);
            byte[] frame = Make.join(Make.head(0, b), LAST_ABC);
            TabledFrames x = Check.with(frame);
            Check.due("just the span of " + b, x.open(span), 3);
            Check.due("its lowest 31 bits", x.told(9), (int) (span & Integer.MAX_VALUE));
            fault("one less than the span of " + b, frame, span - 1, 4, 5);
        }
        Check.due("the least", Check.fine("the least", small(), 3).told(9), 1024);
    }

    private static TabledFrames keeping(int number) {
        TabledFrames x = Check.with(DictionaryTest.dictionary(number, new int[] {1, 2, 3}, Make.text("content")));
        Check.due("keep", x.keep(), number);
        return x;
    }

    private static void numbers() {
        Check.says("The dictionary's number, of 0, 1, 2, 4 bytes (by d; without bytes 0).");
        int[] wide = {0, 1, 2, 4};
        for (int d = 0; d < 4; d++) {
            Check.fine("0 in " + wide[d] + " bytes", Make.join(Make.head(d, 0), new byte[wide[d]], LAST_ABC), ABC);
            fault("a byte of " + wide[d] + " lacks", Make.join(Make.head(d, 0), new byte[Math.max(0, wide[d] - 1)]), 1, Math.max(6, 5 + wide[d]));
        }
        int[][] fits = {{1, 1}, {255, 1}, {255, 2}, {255, 3}, {256, 2}, {65535, 2}, {65535, 3}, {65536, 3}, {Integer.MAX_VALUE, 3}, {Integer.MIN_VALUE, 3}, {-1, 3}};
        for (int[] of : fits) {
            TabledFrames x = keeping(of[0]);
            Check.load(x, Make.join(Make.head(of[1], 0), Make.number(of[0], wide[of[1]]), LAST_ABC));
            Check.due(of[0] + " in " + wide[of[1]] + " bytes", x.open(1024), 3);
            Check.told("it counts", x, 6, 1, 2, 3);
        }
        int[][] cutOff = {{256, 1}, {257, 1}, {65536 + 7, 2}, {-1, 1}, {-1, 2}};
        for (int[] of : cutOff) {
            TabledFrames x = keeping(of[0]);
            Check.load(x, Make.join(Make.head(of[1], 0), Make.number(of[0], wide[of[1]]), LAST_ABC));
            long told = of[0] & (1L << 8 * wide[of[1]]) - 1;
            Check.due(told + " is not " + of[0], x.open(1024), told == 0 ? 3 : -15);
            Check.due("it does not count", told == 0 ? x.told(7) : 4, 4);
        }
    }

    private static byte[] sized(int f, boolean one, long size, int out) {
        byte[] told = Make.number(f == 1 ? size - 256 : size, f == 0 ? 1 : 1 << f);
        return Make.join(Make.head(f << 6 | (one ? 32 : 0)), one ? new byte[0] : Make.bytes(0x38), told, Make.block(true, 1, out, Make.bytes('s')));
    }

    private static void sizes() {
        Check.says("The SIZE: f = 0: a byte if ONE, else nothing; 1: N2 and 256; 2: N4; 3: eight bytes.");
        int[][] right = {{0, 0}, {0, 1}, {0, 255}, {1, 256}, {1, 257}, {1, 511}, {1, 512}, {1, 8000}, {2, 0}, {2, 1}, {2, 256}, {2, 8000}, {3, 0}, {3, 8000}};
        for (int[] of : right) {
            for (int one = of[0] == 0 ? 1 : 0; one < 2; one++) {
                TabledFrames x = Check.fine("size " + of[1] + " by form " + of[0], sized(of[0], one == 1, of[1], of[1]), of[1]);
                Check.told("size " + of[1], x, 9, one == 1 ? of[1] : 131072, of[1]);
            }
        }
        long[][] far = {{1, 65791}, {2, 0x7FFFFFFFL}, {2, 0x80000000L}, {2, 0xFFFFFFFFL}, {3, 1L << 32 | 3}, {3, 1L << 31 | 3}, {3, Long.MAX_VALUE}, {3, Long.MIN_VALUE | 3}, {3, -1}};
        for (long[] of : far) {
            TabledFrames x = fault("size " + of[1] + " by form " + of[0], sized((int) of[0], false, of[1], 3), 8, 6);
            Check.due("its lowest 31 bits", x.told(10), (int) (of[1] & Integer.MAX_VALUE));
        }
        TabledFrames x = Check.fine("nothing", Make.join(Make.wide(), LAST_ABC), ABC);
        Check.due("it was not told", x.told(10), -1);
    }

    private static void sizeIsTheSpan() {
        Check.says("If ONE, the SPAN is the SIZE.");
        for (int n : new int[] {0, 1, 255, 1000}) {
            byte[] head = n < 256 ? Make.head(32, n) : Make.join(Make.head(96), Make.number(n - 256, 2));
            byte[] just = Make.join(head, Make.block(true, 1, n, Make.bytes('o')));
            TabledFrames x = Check.with(just);
            Check.due("size " + n + " opened by so much", x.open(n), n);
            Check.due("size " + n, x.told(9), n);
            fault("a block of one more than " + n, Make.join(head, Make.block(true, 1, n + 1, Make.bytes('o'))), 6, head.length);
            if (n > 0) {
                fault("size " + n + " opened by one less", just, n - 1, 4, 5);
            }
        }
    }

    private static void spanWithoutASign() {
        Check.says("FAULT 4: the SPAN, as a number without a sign, is above what open() may take.");
        for (long size : new long[] {1L << 62, Long.MAX_VALUE}) {
            byte[] frame = Make.join(Make.head(192 | 32), Make.number(size, 8), LAST_ABC);
            TabledFrames x = fault("size " + size + " is no span above the most", frame, 8, 5);
            Check.told("its head was through", x, 9, (int) (size & Integer.MAX_VALUE), (int) (size & Integer.MAX_VALUE));
            fault("size " + size + " is above one less", frame, size - 1, 4, 5);
        }
        for (long size : new long[] {Long.MIN_VALUE, Long.MIN_VALUE + 3, -2, -1}) {
            byte[] frame = Make.join(Make.head(192 | 32), Make.number(size, 8), LAST_ABC);
            TabledFrames x = fault("a size of 2^63 and more", frame, 4, 5);
            Check.told("its head was not through", x, 0, 0, 0, 0, 0, 0, 0, 0, 0, 0, 0, 0, 0);
            fault("a size of 2^63 and more", frame, 0, 4, 5);
        }
        fault("1 is above 0", Make.head(32, 1), 0, 4, 5);
        Check.due("0 is not above 0", Check.with(Make.join(Make.head(32, 0), Make.block(true, 0, 0))).open(0), 0);
    }

    private static void anotherNumber() {
        Check.says("FAULT 5: a dictionary's number that is not 0 and not the one that is kept.");
        for (int d = 1; d < 4; d++) {
            int n = d == 3 ? 4 : d;
            for (long number : new long[] {1, (1L << (8 * n)) - 1, 1L << (8 * n - 1)}) {
                fault(number + " and none is kept", Make.join(Make.head(d, 0), Make.number(number, n)), 5, 6);
                fault(number + " and none is kept, ONE", Make.join(Make.head(d | 32), Make.number(number, n)), 5, 5);
            }
        }
        TabledFrames x = keeping(DICTIONARY_NUMBER);
        for (int i = 0; i < 32; i++) {
            Check.load(x, Make.join(Make.head(3, 0), Make.number(DICTIONARY_NUMBER ^ 1 << i, 4), LAST_ABC));
            Check.fault("another bit " + i, x, 1024, 5, 6);
        }
        Check.load(x, Make.join(Make.head(3, 0), Make.number(DICTIONARY_NUMBER, 4), LAST_ABC));
        Check.due("the one that is kept", x.open(1024), 3);
        Check.load(x, Make.join(Make.head(3, 0), Make.number(0, 4), LAST_ABC));
        Check.due("0", x.open(1024), 3);
        Check.load(x, ABC);
        Check.due("keep one with the number 0", x.keep(), 0);
        Check.load(x, Make.join(Make.head(1, 0, 1), LAST_ABC));
        Check.fault("1 is not 0", x, 1024, 5, 6);
        x.cut(0);
        Check.due("keep none", x.keep(), 0);
        Check.load(x, Make.join(Make.head(3, 0), Make.number(DICTIONARY_NUMBER, 4), LAST_ABC));
        Check.fault("it was kept before", x, 1024, 5, 6);
    }

    private static void limits() {
        Check.says("LIMIT is the SPAN, 131072 at most.");
        Check.says("FAULT 6: kind 3, or n above LIMIT.");
        int[][] limits = {{0, 1024}, {1, 1152}, {0x37, 122880}, {0x38, 131072}, {0x39, 131072}, {0x40, 131072}, {0xFF, 131072}};
        for (int[] of : limits) {
            byte[] head = Make.head(0, of[0]);
            for (int kind = 0; kind < 3; kind++) {
                TabledFrames x = fault("limit " + of[1] + ", one more", Make.join(head, Make.block(true, kind, of[1] + 1)), 6, 6);
                Check.told("its N3 was there", x, 0, 1, 1);
                fault("limit " + of[1] + ", the most", Make.join(head, Make.block(true, kind, (1 << 21) - 1)), 6, 6);
                fault("limit " + of[1] + ", just as many", Make.join(head, Make.block(true, kind, of[1])), 1, 9);
            }
            TabledFrames x = Check.with(Make.join(head, Make.block(true, 1, of[1], Make.bytes('l'))));
            Check.due("limit " + of[1] + ", just as many times one byte", x.open(Long.MAX_VALUE), of[1] > 8000 ? -17 : of[1]);
        }
        byte[] thousand = Make.join(Make.head(0, 0), Make.block(true, 0, 1024, Make.same('p', 1024)));
        Check.fine("just as many bytes", thousand, Make.same('p', 1024));
        byte[] packed = Make.join(Make.head(0, 0), Make.packed(true, Make.plain(Make.same('p', 1020)), Make.bytes(0)));
        Check.fine("just as many that are packed", packed, Make.same('p', 1020));
        for (int n : new int[] {0, 1, 1024, 1025, (1 << 21) - 1}) {
            fault("kind 3, " + n, Make.join(Make.head(0, 0), Make.block(false, 3, n), ABC), 6, 6);
        }
    }

    private static void blocks() {
        Check.says("BLOCKS, till the last: N3: lowest bit: the last; two bits kind; the others n.");
        byte[] before = Make.join(Make.block(false, 0, 1, Make.text("a")), Make.block(false, 1, 2, Make.text("b")), Make.packed(false, Make.bytes(8, 'c', 0)));
        byte[] frame = Make.join(Make.head(0, 0), before, Make.block(true, 0, 1, Make.text("d")));
        TabledFrames x = Check.fine("the last is the fourth", frame, Make.text("abbcd"));
        Check.told("the last is the fourth", x, 0, 1, 4, 1, 1, 0, 5);
        fault("none is the last", Make.join(Make.head(0, 0), before), 1, 6 + before.length);
        fault("a block behind the last", Make.join(frame, Make.block(true, 0, 1, Make.text("e"))), 2, frame.length);
        for (int kind = 0; kind < 3; kind++) {
            byte[] last = kind == 2 ? Make.packed(true, Make.bytes(8, 'c', 0)) : Make.block(true, kind, 1, Make.text("c"));
            Check.fine("the last is of kind " + kind, Make.join(Make.head(0, 0), last), Make.text("c"));
        }
        byte[] all = Make.same('m', 257);
        Check.fine("n of two bytes", Make.join(Make.head(0, 0), Make.block(true, 0, 257, all)), all);
    }

    private static void emptyBlocks() {
        Check.says("Kind 0: n bytes come out. 1: one byte comes out n times. 2: PACKED, n bytes.");
        Check.fine("none of kind 0", Make.join(Make.head(0, 0), Make.block(true, 0, 0)), 0);
        Check.fine("a byte no times", Make.join(Make.head(0, 0), Make.block(true, 1, 0, Make.bytes(5))), 0);
        fault("the byte that comes out no times lacks", Make.join(Make.head(0, 0), Make.block(true, 1, 0)), 1, 9);
        fault("none of kind 2", Make.join(Make.head(0, 0), Make.block(true, 2, 0)), 10, 9);
        Check.fine("a byte once", Make.join(Make.head(0, 0), Make.block(true, 1, 1, Make.bytes(5))), Make.bytes(5));
        Check.fine("a byte 1024 times", Make.join(Make.head(0, 0), Make.block(true, 1, 1024, Make.bytes(255))), Make.same(255, 1024));
        byte[] empty = Make.join(Make.block(false, 0, 0), Make.block(false, 1, 0, Make.bytes(5)), Make.packed(false, Make.bytes(0, 0)));
        TabledFrames x = Check.fine("three of nothing", Make.join(Make.head(32, 3), empty, LAST_ABC), ABC);
        Check.told("three of nothing", x, 0, 1, 4, 1, 0, 0, 3);
        byte[] many = new byte[0];
        for (int i = 0; i < 2600; i++) {
            many = Make.join(many, Make.block(i == 2599, 0, 0));
        }
        Check.told("2600 of nothing", Check.fine("2600 of nothing", Make.join(Make.head(0, 0), many), 0), 0, 1, 2600);
    }

    private static void sums() {
        Check.says("Then the SUM, if told: N4, the lowest 32 bits of the SUM of all that came out of this FRAME.");
        for (int n : new int[] {0, 1, 3, 4, 31, 32, 33, 1024}) {
            byte[] out = Make.same(n * 7 + 200, n);
            byte[] frame = summed(Make.head(4, 0), out);
            Check.fine("the sum of " + n, frame, out);
            Check.fine("of this frame alone", Make.join(small(), frame, small(), frame), Make.join(ABC, out, ABC, out));
        }
        byte[] three = Make.join(Make.head(4, 0), Make.block(false, 0, 3, ABC), Make.block(false, 1, 2, Make.text("d")),
            Make.packed(true, Make.plain(ABC), Make.bytes(0)), Make.number(RowTest.slowSum(Make.text("abcddabc")), 4));
        Check.fine("of all blocks", three, Make.text("abcddabc"));
        Check.fine("not told, none behind", small(), ABC);
        fault("not told, but behind", Make.first(summed(Make.head(0, 0), ABC), 14), 1, 14);
    }

    private static void lacking() {
        Check.says("FAULT 1: bytes are wanted that are not there (PLACE: the row's size).");
        for (int n = 1; n < 4; n++) {
            fault(n + " bytes of a mark", Make.first(Make.head(), n), 1, n);
            fault(n + " bytes behind a frame", Make.join(small(), Make.first(Make.head(), n)), 1, 12 + n);
        }
        fault("KIND", Make.head(), 1, 4);
        fault("the SPAN", Make.head(0), 1, 5);
        for (int n = 0; n < 3; n++) {
            TabledFrames x = fault(n + " bytes of an N3", Make.join(Make.head(0, 0), new byte[n]), 1, 6 + n);
            Check.told("its N3 was not there", x, 0, 1, 0);
        }
        for (int n = 0; n < 3; n++) {
            TabledFrames x = fault(n + " bytes of three", Make.join(Make.head(0, 0), Make.block(true, 0, 3), Make.first(ABC, n)), 1, 9 + n);
            Check.told("its N3 was there", x, 0, 1, 1, 0, 0, 0, 0);
            fault(n + " bytes of three that are packed", Make.join(Make.head(0, 0), Make.block(true, 2, 3), new byte[n]), 1, 9 + n);
        }
        fault("the one byte", Make.join(Make.head(0, 0), Make.block(true, 1, 3)), 1, 9);
        byte[] summed = summed(Make.head(4, 0), ABC);
        for (int n = 0; n < 4; n++) {
            fault(n + " bytes of a SUM", Make.first(summed, 12 + n), 1, 12 + n);
        }
        for (int n = 4; n < 11; n++) {
            fault("a frame that is passed over, " + n, Make.first(PASSED, n), 1, n);
        }
    }

    /** Bytes that were cut off are not there, though they would have been right or wrong. */
    private static void cutOff() {
        Check.says("bytes are wanted that are not there (PLACE: the row's size).");
        byte[] good = Make.join(Make.head(4 | 3 | 128, 0, 0, 0, 0, 0, 8, 0, 0, 0), Make.block(false, 1, 4, Make.bytes('x')),
            Make.packed(false, Make.bytes(8, 'y'), Make.bytes(0)), Make.block(true, 0, 3, Make.text("zzz")), Make.number(RowTest.slowSum(Make.text("xxxxyzzz")), 4));
        Check.fine("whole", good, Make.text("xxxxyzzz"));
        byte[][] wrong = {Make.head(8, 0, 0), Make.head(0, 255, 255), Make.head(1, 0, 9), Make.join(Make.head(0, 0), Make.bytes(255, 255, 255)), Make.number(4247762217L, 4)};
        int[] until = {4, 5, 6, 8, 3};
        for (int n = 1; n < good.length; n++) {
            TabledFrames x = Check.with(good);
            x.cut(n);
            Check.fault("cut to " + n, x, Long.MAX_VALUE, 1, n);
        }
        for (int i = 0; i < wrong.length; i++) {
            for (int n = 1; n <= until[i]; n++) {
                TabledFrames x = Check.with(wrong[i]);
                x.cut(n);
                Check.fault("wrong bytes that were cut off, to " + n, x, 1024, 1, n);
            }
        }
        for (int n = 1; n < PASSED.length; n++) {
            TabledFrames x = Check.with(PASSED);
            x.cut(n);
            Check.fault("a frame that is passed over, cut to " + n, x, 0, 1, n);
        }
    }

    private static void lackingSizes() {
        Check.says("bytes are wanted that are not there");
        int[] wide = {1, 2, 4, 8};
        for (int f = 0; f < 4; f++) {
            for (int n = 0; n < wide[f]; n++) {
                fault(n + " bytes of a SIZE of " + wide[f], Make.join(Make.head(f << 6 | 32), new byte[n]), 1, 5 + n);
                if (f > 0) {
                    fault(n + " bytes of a SIZE of " + wide[f] + " behind a SPAN", Make.join(Make.head(f << 6, 0), new byte[n]), 1, 6 + n);
                }
            }
        }
        for (int d = 1; d < 4; d++) {
            for (int n = 0; n < (d == 3 ? 4 : d); n++) {
                fault(n + " bytes of a number by " + d, Make.join(Make.head(d, 0), new byte[n]), 1, 6 + n);
                fault(n + " bytes of a number by " + d + ", though they are not 0", Make.join(Make.head(d | 32), Make.same(9, n)), 1, 5 + n);
            }
        }
    }

    private static void anotherMark() {
        Check.says("2: another N4 at a FRAME's beginning.");
        for (int i = 0; i < 32; i++) {
            byte[] frame = Make.join(Make.number(4247762216L ^ 1L << i, 4), Make.bytes(0, 0), LAST_ABC);
            fault("another bit " + i, frame, 2, 0);
        }
        fault("0", new byte[4], 2, 0);
        fault("a dictionary's", Make.number(3962610743L, 4), 2, 0);
        TabledFrames x = fault("behind a frame", Make.join(small(), Make.number(-1, 4)), 2, 12);
        Check.told("behind a frame", x, 0, 1, 1, 0, 0, 0, 3);
        fault("the highest byte first", Make.bytes(0xFD, 0x2F, 0xB5, 0x28, 0, 0), 2, 0);
    }

    private static byte[] eightThousand() {
        return Make.join(Make.wide(), Make.block(true, 1, 8000, Make.bytes('x')));
    }

    private static void tooMany() {
        Check.says("7: more than 8000 bytes would have come out (of all FRAMES);");
        Check.fine("8000 times one", eightThousand(), Make.same('x', 8000));
        fault("8001 times one", Make.join(Make.wide(), Make.block(true, 1, 8001, Make.bytes('x'))), 7, 6);
        byte[] plain = Make.join(Make.wide(), Make.block(false, 1, 7000, Make.bytes('x')), Make.block(true, 0, 900, Make.same('y', 900)));
        Check.fine("7900", plain, 7900);
        for (int n = 99; n <= 102; n++) {
            byte[] more = Make.join(Make.head(0, 0), Make.block(true, 0, n, Make.same('z', n)));
            if (n <= 100) {
                Check.fine("7900 and " + n, Make.join(plain, more), 7900 + n);
            } else {
                TabledFrames x = fault("7900 and " + n, Make.join(plain, more), 7, plain.length + 6);
                Check.told("7900 and " + n, x, 0, 2, 3, 0, 0, 0, 7900);
            }
        }
        Check.fine("nothing more", Make.join(eightThousand(), Make.head(32, 0), Make.block(true, 0, 0)), 8000);
        Check.fine("no times more", Make.join(eightThousand(), Make.head(0, 0), Make.block(true, 1, 0, Make.bytes(1))), 8000);
        fault("one more", Make.join(eightThousand(), Make.head(0, 0), Make.block(true, 1, 1, Make.bytes(1))), 7, 10 + 6);
        byte[] twice = Make.join(eightThousand(), eightThousand());
        fault("8000 more", twice, 7, 10 + 6);
    }

    private static void tooManyPacked() {
        Check.says("7 (of a PACKED one when all of it is told)");
        byte[] before = Make.join(Make.wide(), Make.block(false, 1, 7990, Make.bytes('x')));
        for (int n = 9; n <= 12; n++) {
            byte[] letters = Make.packed(true, Make.allOf('y', n), Make.bytes(0));
            byte[] copy = Make.packed(true, Make.plain(new byte[0]), Make.onlySymbols(1, 0, 0, n - 3, Make.bytes(1)));
            if (n <= 10) {
                Check.fine("7990 and " + n + " letters", Make.join(before, letters), 7990 + n);
                Check.fine("7990 and a copy of " + n, Make.join(before, copy), 7990 + n);
            } else {
                TabledFrames x = fault("7990 and " + n + " letters", Make.join(before, letters), 7, 10);
                Check.told("its letters were through, the block was not", x, 0, 1, 2, 0, n, 0, 7990);
                x = fault("7990 and a copy of " + n, Make.join(before, copy), 7, 10);
                Check.told("its sequence was through, the block was not", x, 0, 1, 2, 0, 0, 1, 7990, 4, 1, 8);
            }
        }
        Check.fault("14 comes first", Make.join(before, Make.packed(true, Make.allOf('y', 99), Make.bytes(0, 0))), 14, 10 + 3 + 4);
        Check.fault("17 comes first", Make.join(before, Make.packed(true, Make.plain(new byte[0]), Make.onlySymbols(1, 0, 0, 30, Make.bytes(2)))), 17, 10 + 3 + 3 + 5);
        byte[] second = Make.onlySymbols(2, 0, 3, 30, Make.reversed(0, 3, 7, 3));
        TabledFrames x = Check.fine("copies", Make.join(Make.wide(), Make.block(false, 1, 50, Make.bytes('x')), Make.packed(true, Make.plain(new byte[0]), second)), 50 + 66);
        Check.told("copies", x, 4, 2);
        x = Check.fault("behind 8000 the second is told still", Make.join(before, Make.packed(true, Make.plain(new byte[0]), second)), 7, 10);
        Check.told("behind 8000 the second is told still", x, 4, 2, 7990, 12, 5, 1);
    }

    private static void anotherSize() {
        Check.says("8: a SIZE that was told is another one than what came out;");
        for (int f = 0; f < 4; f++) {
            int n = f == 1 ? 300 : 100;
            for (int more = -1; more <= 1; more++) {
                byte[] frame = sized(f, true, n + 1, n + 1 + more);
                int place = 5;
                if (more > 0) {
                    fault("form " + f + ", ONE, a block above the size", frame, 6, 5 + (f == 0 ? 1 : 1 << f));
                } else if (more < 0) {
                    TabledFrames x = fault("form " + f + ", ONE, one less", frame, 8, place);
                    Check.told("all its blocks were through", x, 0, 1, 1, 0, 0, 0, n);
                } else {
                    Check.fine("form " + f + ", ONE", frame, n + 1);
                }
                if (f > 0 && more != 0) {
                    fault("form " + f + ", " + more, sized(f, false, n + 1, n + 1 + more), 8, 6);
                }
            }
        }
        byte[] two = Make.join(Make.head(32, 5), Make.block(false, 0, 3, ABC), LAST_ABC);
        fault("two blocks have one more", two, 8, 5);
        fault("of this frame alone", Make.join(small(), Make.head(32, 6), LAST_ABC), 8, 12 + 5);
        fault("256 by N2 is not 0", Make.join(Make.head(64, 0, 0, 0), Make.block(true, 0, 0)), 8, 6);
    }

    private static void anotherSum() {
        Check.says("9: the SUM is another one.");
        byte[] head = Make.join(Make.head(4, 0), LAST_ABC);
        long sum = RowTest.slowSum(ABC);
        for (int i = 0; i < 32; i++) {
            TabledFrames x = fault("another bit " + i, Make.join(head, Make.number(sum ^ 1L << i, 4)), 9, 12);
            Check.told("all its blocks were through", x, 0, 1, 1, 0, 0, 0, 3);
        }
        fault("the highest bits", Make.join(head, Make.number(sum >>> 32, 4)), 9, 12);
        fault("0", Make.join(head, new byte[4]), 9, 12);
        fault("the first frame's", Make.join(summed(Make.head(4, 0), Make.text("x")), head, Make.number(RowTest.slowSum(Make.text("xabc")), 4)), 9, 14 + 12);
    }

    private static void places() {
        Check.says("PLACES: of 2 the FRAME, of 3 KIND, of 4 the SPAN's byte (if ONE the SIZE), of 5 the number, of 6, 7 the BLOCK, of 8 the SIZE, of 9 the SUM.");
        int at = 12;
        byte[] before = small();
        Check.fault("2", Make.join(before, new byte[4]), 2, at);
        Check.fault("3", Make.join(before, Make.head(8)), 3, at + 4);
        Check.fault("4", Check.with(Make.join(before, Make.head(0, 1))), 1151, 4, at + 5);
        Check.fault("4, ONE", Check.with(Make.join(before, Make.head(96), Make.number(2000, 2))), 1024, 4, at + 5);
        Check.fault("4 of a SIZE behind a number", Check.with(Make.join(before, Make.head(96 | 3, 0, 0, 0, 0), Make.number(2000, 2), new byte[3])), 1024, 4, at + 9);
        Check.fault("5", Make.join(before, Make.head(1, 0, 1)), 5, at + 6);
        Check.fault("5, ONE", Make.join(before, Make.head(33, 1)), 5, at + 5);
        Check.fault("6 of the second", Make.join(before, Make.head(0, 0), Make.block(false, 0, 3, ABC), Make.block(true, 3, 0)), 6, at + 6 + 6);
        Check.fault("7 of the second", Make.join(before, Make.wide(), Make.block(false, 1, 7997, Make.bytes(1)), Make.block(true, 1, 1, Make.bytes(1))), 7, at + 6 + 4);
        Check.fault("8 behind a SPAN and a number", Make.join(before, Make.head(128 | 1, 0, 0), Make.number(4, 4), LAST_ABC), 8, at + 7);
        Check.fault("8, ONE, behind a number", Make.join(before, Make.head(32 | 2, 0, 0), Make.number(4, 1), LAST_ABC), 8, at + 7);
        Check.fault("9", Make.join(before, Make.head(4, 0), LAST_ABC, new byte[4]), 9, at + 12);
    }

    private static void orderInHeads() {
        Check.says("All is looked at as it comes; 5 before 4 (if ONE), else behind;");
        fault("2 before all", new byte[9], 2, 0);
        fault("3 before 4", Make.head(8, 255), 0, 3, 4);
        fault("3 before 5", Make.head(8 | 33, 1), 3, 4);
        fault("3 before 1", Make.head(8), 3, 4);
        fault("4 before 5", Make.head(1, 1, 9), 1151, 4, 5);
        fault("5 behind 4", Make.head(1, 1, 9), 1152, 5, 6);
        fault("4 before 1 of the number", Make.head(3, 1), 1151, 4, 5);
        fault("1 of the number behind 4", Make.head(3, 1), 1152, 1, 6);
        fault("5 before 1 of the SIZE", Make.head(64 | 1, 0, 9), 5, 6);
        fault("1 of the SIZE behind 5", Make.head(64 | 1, 0, 0), 1, 7);
        fault("ONE, 5 before 4", Make.head(33, 9, 100), 99, 5, 5);
        fault("ONE, 4 behind 5", Make.head(33, 0, 100), 99, 4, 6);
        fault("ONE, 5 before 1 of the SIZE", Make.head(33, 9), 0, 5, 5);
        fault("ONE, 1 of the SIZE before 4", Make.join(Make.head(192 | 32), Make.same(255, 7)), 0, 1, 12);
        fault("ONE, 4 as soon as the SIZE is there", Make.join(Make.head(192 | 32), Make.same(255, 8)), 0, 4, 5);
        fault("4 before a block's", Make.join(Make.head(32, 3), Make.block(true, 3, 0)), 2, 4, 5);
    }

    private static void orderInBlocks() {
        Check.says("a BLOCK's 6, then its bytes (1), then 7 (of a PACKED one when all of it is told);");
        byte[] full = Make.join(eightThousand(), Make.wide());
        int at = 16;
        Check.fault("6 by its kind before 1", Make.join(full, Make.block(true, 3, 5)), 6, at);
        Check.fault("6 by its n before 1", Make.join(full, Make.block(true, 0, 131073)), 6, at);
        Check.fault("6 by its n before 7", Make.join(full, Make.block(true, 1, 131073, Make.bytes(1))), 6, at);
        Check.fault("1 before 7", Make.join(full, Make.block(true, 0, 5, Make.same(1, 4))), 1, at + 7);
        Check.fault("1 of the one byte before 7", Make.join(full, Make.block(true, 1, 5)), 1, at + 3);
        Check.fault("1 of a packed one before 10", Make.join(full, Make.block(true, 2, 5, Make.same(255, 4))), 1, at + 7);
        Check.fault("7", Make.join(full, Make.block(true, 0, 5, Make.same(1, 5))), 7, at);
        Check.fault("10 before 7", Make.join(full, Make.packed(true, Make.bytes(5 << 3, 1, 1, 1, 1))), 10, at + 3);
        Check.fault("20 before 7", Make.join(full, Make.packed(true, Make.allOf('y', 131072), Make.onlySymbols(1, 1, 2, 0, Make.reversed(0, 2)))), 20, at + 3 + 4 + 5);
        Check.fault("7 behind all", Make.join(full, Make.packed(true, Make.allOf('y', 131072), Make.bytes(0))), 7, at);
        Check.fault("7 before 8", Make.join(eightThousand(), Make.head(32, 9), Make.block(true, 1, 5, Make.bytes(1))), 7, at);
    }

    private static void orderBehindBlocks() {
        Check.says("8 behind the last BLOCK, before the SUM is read.");
        byte[] head = Make.head(36, 4);
        fault("8, and no SUM", Make.join(head, LAST_ABC), 8, 5);
        fault("8, and half a SUM", Make.join(head, LAST_ABC, new byte[2]), 8, 5);
        fault("8, and another SUM", Make.join(head, LAST_ABC, new byte[4]), 8, 5);
        fault("8, and the right SUM", Make.join(head, LAST_ABC, Make.number(RowTest.slowSum(ABC), 4)), 8, 5);
        fault("1 of a block before 8", Make.join(head, Make.block(false, 0, 3, ABC)), 1, 12);
        fault("6 of the last before 8", Make.join(head, Make.block(false, 0, 3, ABC), Make.block(true, 0, 5)), 6, 12);
        fault("9 before 2 of the next", Make.join(Make.head(36, 3), LAST_ABC, new byte[8]), 9, 12);
    }
}

import java.util.List;

/** Section 4: how many sequences, their tables, values, lengths and offsets, faults 14 to 20, each at its edges. */
final class SequencesEdges {
    private static final byte[] ABCD = Make.text("abcd");
    private static final byte[] NO_LETTERS = Make.bytes(0);
    /** Where the section begins behind the letters abcd in a frame of one block. */
    private static final int SECTION = 9 + 3 + 4;
    private static final int[] GREATEST = {35, 31, 52};

    private SequencesEdges() {
    }

    static void all() {
        howMany();
        none();
        lowestTwo();
        modes();
        only();
        tableBefore();
        values();
        copies();
        letters();
        orderOfBits();
        lastDoesNotGoOn();
        oneSequence();
        rememberedNew();
        rememberedTaken();
        secondLeavesThird();
        atTheBeginning();
        lettersLeft();
        headLacks();
        tableFaults();
        noSuchTable();
        rowFaults();
        offsetZero();
        offsetTooFar();
        offsetAboveSpan();
        tooManyLetters();
        aboveLimit();
        places();
        orderOfOne();
        leftOverBehindAll();
    }

    private static byte[] abcd(byte[]... section) {
        return Make.one(Make.plain(ABCD), Make.join(section));
    }

    private static byte[] small(int limit, byte[]... content) {
        return Make.join(Make.head(32, limit), Make.packed(true, content));
    }

    /** Four bytes came out before a block of n copies of three each, which have no bits. */
    private static byte[] manyCopies(byte[] howMany) {
        return Make.join(Make.wide(), Make.block(false, 0, 4, ABCD), Make.packed(true, NO_LETTERS, howMany, Make.bytes(0x54, 0, 0, 0, 1)));
    }

    private static void howMany() {
        Check.says("a byte b: b below 128 is how many; below 255: 256 (b - 128) and the next byte; 255: N2 and 32512.");
        int[][] heads = {{1, 1}, {126, 126}, {127, 127}, {1, 128, 1}, {127, 128, 127}, {128, 128, 128}, {255, 128, 255}, {256, 129, 0}, {511, 129, 255}, {512, 130, 0},
            {2665, 138, 105}, {2666, 138, 106}, {32256, 254, 0}, {32511, 254, 255}, {32512, 255, 0, 0}, {32513, 255, 1, 0}, {32768, 255, 0, 1}, {43690, 255, 170, 43}};
        for (int[] head : heads) {
            int n = head[0];
            byte[] told = new byte[head.length - 1];
            for (int i = 1; i < head.length; i++) {
                told[i - 1] = (byte) head[i];
            }
            TabledFrames x = Check.with(manyCopies(told));
            int out = 4 + 3 * n;
            Check.due(n + " sequences: open", x.open(131072), out <= 8000 ? out : -17);
            Check.due(n + " sequences: place", x.place(), out <= 8000 ? -1 : 13);
            Check.due(n + " sequences: told", x.told(4), n);
        }
        TabledFrames x = Check.fault("98047, the most", manyCopies(Make.bytes(255, 255, 255)), 20, 13 + 3 + 1 + 3 + 4);
        Check.due("so many copies of three are not above 131072", x.told(4), 43690);
    }

    private static void none() {
        Check.says("None: that is the end of the block (FAULT 14: not so); all letters come out.");
        Check.fine("none", abcd(Make.bytes(0)), ABCD);
        Check.fine("none by two bytes", abcd(Make.bytes(128, 0)), ABCD);
        Check.fine("none, and no letters", Make.one(NO_LETTERS, Make.bytes(0)), 0);
        Check.fault("a byte behind", abcd(Make.bytes(0, 0)), 14, SECTION);
        Check.fault("a byte behind two", abcd(Make.bytes(128, 0, 0)), 14, SECTION);
        Check.fault("many bytes behind", abcd(Make.bytes(0, 0x54, 0, 0, 0, 1)), 14, SECTION);
        TabledFrames x = Check.fine("8000 letters", Make.one(Make.allOf('e', 8000), Make.bytes(0)), Make.same('e', 8000));
        Check.told("8000 letters", x, 2, 1, 8000, 0, 8000);
        Check.due("no table was used", x.table(0, 0, 0), -3);
    }

    private static void lowestTwo() {
        Check.says("the lowest two are 0 (FAULT 14).");
        for (int modes = 0; modes < 256; modes++) {
            if ((modes & 3) != 0) {
                TabledFrames x = Check.fault("modes " + modes, abcd(Make.bytes(1, modes, 0, 0, 0, 1)), 14, SECTION);
                Check.due("no table was looked at", x.table(0, 0, 0), -3);
            }
        }
        Check.fine("they are 0", abcd(Make.onlySymbols(1, 4, 2, 0, Make.reversed(3, 2))), Make.text("abcdabc"));
    }

    /** The row of one sequence of LETTERS 4, VALUE 7 and COPY 3 by tables of these. */
    private static byte[] rowBy(States... tables) {
        return Model.sequenceRow(tables, List.of(new int[] {4, 3, 7}));
    }

    /** Each table in each of the first three forms, and then once more by the table before. */
    private static void modes() {
        Check.says("from the highest on two bits each for LETTERS, OFFSETS, COPIES;");
        Check.says("In that order: 0: the DEFAULT table. 1: a byte, the only symbol (l = 0; a TABLE of one place, BITS 0). 2: COUNTS that are told.");
        int[] symbols = {4, 2, 0};
        for (int choice = 0; choice < 27; choice++) {
            int[] mode = {choice % 3, choice / 3 % 3, choice / 9};
            States[] tables = new States[3];
            byte[] told = new byte[0];
            int modes = 0;
            for (int kind = 0; kind < 3; kind++) {
                int[] counts = new int[symbols[kind] + 2];
                counts[symbols[kind]] = 20;
                counts[symbols[kind] + 1] = 12;
                tables[kind] = mode[kind] == 0 ? States.byDefault(kind) : mode[kind] == 1 ? States.only(symbols[kind]) : new States(5, counts);
                told = mode[kind] == 0 ? told : Make.join(told, mode[kind] == 1 ? Make.bytes(symbols[kind]) : Make.counts(5, counts));
                modes |= mode[kind] << (6 - 2 * kind);
            }
            byte[] first = Make.packed(false, Make.plain(ABCD), Make.bytes(1, modes), told, rowBy(tables));
            byte[] second = Make.packed(true, Make.plain(ABCD), Make.bytes(1, 0xFC), rowBy(tables));
            TabledFrames x = Check.fine("modes " + modes, Make.join(Make.wide(), first, second), Make.text("abcdabcabcdabc"));
            for (int kind = 0; kind < 3; kind++) {
                tables[kind].compare("modes " + modes, x, kind);
            }
        }
    }

    private static void only() {
        Check.says("1: a byte, the only symbol (l = 0; a TABLE of one place, BITS 0).");
        TabledFrames x = Check.fault("the greatest symbols", Make.one(NO_LETTERS, Make.bytes(1, 0x54, 35, 31, 52)), 17, 9 + 1 + 5);
        for (int kind = 0; kind < 3; kind++) {
            Check.due("l", x.table(kind, -1, 0), 0);
            Check.due("symbol", x.table(kind, 0, 0), GREATEST[kind]);
            Check.due("bits", x.table(kind, 0, 1), 0);
            Check.due("base", x.table(kind, 0, 2), 0);
            Check.due("no second place", x.table(kind, 1, 0), -2);
        }
        x = Check.fine("the least symbols", manyCopies(Make.bytes(1)), Make.text("abcdabc"));
        for (int kind = 0; kind < 3; kind++) {
            Check.due("symbol", x.table(kind, 0, 0), 0);
        }
    }

    private static void tableBefore() {
        Check.says("3: the table that was the latest of its kind in this FRAME, or the dictionary's.");
        byte[] first = Make.packed(false, Make.plain(ABCD), Make.onlySymbols(1, 4, 2, 0, Make.reversed(3, 2)));
        byte[] other = Make.packed(false, Make.plain(ABCD), Make.onlySymbols(1, 2, 2, 1, Make.reversed(0, 2)));
        byte[] none = Make.packed(false, Make.plain(ABCD), Make.bytes(0));
        byte[] again = Make.packed(true, Make.plain(ABCD), Make.bytes(1, 0xFC), Make.reversed(0, 2));
        TabledFrames x = Check.fine("the latest of two", Make.join(Make.wide(), first, other, none, again), 7 + 8 + 4 + 8);
        Check.sequence("the latest of two", x, 2, 2, 4, 4, 1);
        byte[] mixed = Make.packed(false, Make.plain(ABCD), Make.bytes(1, 0xD4, 2, 1), Make.reversed(0, 2));
        x = Check.fine("one kind before, two told", Make.join(Make.wide(), first, mixed, again), 7 + 8 + 8);
        Check.sequence("one kind before, two told", x, 1, 4, 4, 4, 1);
        Check.sequence("the latest of each kind", x, 2, 4, 4, 4, 1);
        Check.fault("in the frame before", Make.join(Make.wide(), first, again, Make.wide(), again), 16, 6 + first.length + again.length + 6 + 3 + 7);
    }

    private static void values() {
        Check.says("by the symbols the OFFSET's VALUE: 2^symbol and so many bits;");
        for (int s = 0; s < 32; s++) {
            for (long more : new long[] {0, (1L << s) - 1, (1L << s) / 2}) {
                long value = (1L << s) + more;
                long offset = value > 3 ? value - 3 : value == 1 ? 1 : value == 2 ? 4 : 8;
                byte[] frame = Make.join(Make.wide(), Make.block(false, 1, 7000, Make.bytes('v')), Make.packed(true, Make.plain(ABCD), Make.onlySymbols(1, 4, s, 0, Make.reversed(more, s))));
                TabledFrames x = Check.with(frame);
                Check.due("value " + value, x.open(131072), offset <= 7004 ? 7007 : -28);
                Check.due("value " + value, x.sequence(0, 2), offset <= 7004 ? value : -2);
                Check.due("its offset", x.sequence(0, 3), offset <= 7004 ? offset : -2);
                byte[] lacks = Make.join(Make.wide(), Make.packed(true, Make.plain(ABCD), Make.onlySymbols(1, 4, s, 0, Make.reversed(0, Math.max(0, s - 1)))));
                Check.due("a bit lacks", s == 0 ? -27 : Check.with(lacks).open(131072), -27);
            }
        }
    }

    /** The first of symbols 32 to 52 and how many bits they have, as the document writes them out. */
    private static final int[][] COPIES = {{32, 35, 1}, {33, 37, 1}, {34, 39, 1}, {35, 41, 1}, {36, 43, 2}, {37, 47, 2}, {38, 51, 3}, {39, 59, 3}, {40, 67, 4}, {41, 83, 4},
        {42, 99, 5}, {43, 131, 7}, {44, 259, 8}, {45, 515, 9}, {46, 1027, 10}, {47, 2051, 11}, {48, 4099, 12}, {49, 8195, 13}, {50, 16387, 14}, {51, 32771, 15}, {52, 65539, 16}};

    private static void copies() {
        Check.says("COPY: 0 .. 31: 3 more; 32 33 34 35: 35 37 39 41 and 1 bit; 36 37: 43 47 and 2; 38 39: 51 59 and 3; 40 41: 67 83 and 4; 42: 99 and 5; 43: 131 and 7; 44: 259 and 8; 45: 515 and 9; then each 2 times that before less 1 (1027 ..), and one bit more;");
        for (int s = 0; s < 53; s++) {
            int first = s < 32 ? s + 3 : COPIES[s - 32][1];
            int bits = s < 32 ? 0 : COPIES[s - 32][2];
            for (int more : new int[] {0, (1 << bits) - 1}) {
                int copy = first + more;
                TabledFrames x = Check.with(abcd(Make.onlySymbols(1, 4, 2, s, Make.reversed(3, 2, more, bits))));
                int out = 4 + copy;
                Check.due("symbol " + s + " and " + more, x.open(131072), out <= 8000 ? out : out <= 131072 ? -17 : -30);
                Check.due("symbol " + s + " and " + more, x.sequence(0, 1), out <= 131072 ? copy : -2);
            }
            Check.fault("symbol " + s + ", a bit more", abcd(Make.onlySymbols(1, 4, 2, s, Make.reversed(3, 2, 0, bits, 0, 1))), 17, SECTION + 5);
        }
    }

    private static final int[][] LETTERS = {{16, 16, 1}, {17, 18, 1}, {18, 20, 1}, {19, 22, 1}, {20, 24, 2}, {21, 28, 2}, {22, 32, 3}, {23, 40, 3}, {24, 48, 4}, {25, 64, 6},
        {26, 128, 7}, {27, 256, 8}, {28, 512, 9}, {29, 1024, 10}, {30, 2048, 11}, {31, 4096, 12}, {32, 8192, 13}, {33, 16384, 14}, {34, 32768, 15}, {35, 65536, 16}};

    private static void letters() {
        Check.says("LETTERS: 0 .. 15: itself; 16 17 18 19: 16 18 20 22 and 1; 20 21: 24 28 and 2; 22 23: 32 40 and 3; 24: 48 and 4; 25: 64 and 6; then each twice that before, and one bit more.");
        for (int s = 0; s < 36; s++) {
            int first = s < 16 ? s : LETTERS[s - 16][1];
            int bits = s < 16 ? 0 : LETTERS[s - 16][2];
            for (int more : new int[] {0, (1 << bits) - 1}) {
                int n = first + more;
                byte[] before = Make.join(Make.wide(), Make.block(false, 1, 5, Make.bytes(7)));
                byte[] section = Make.onlySymbols(1, s, 2, 0, Make.reversed(0, 2, more, bits));
                TabledFrames x = Check.with(Make.join(before, Make.packed(true, Make.allOf(9, n), section)));
                int out = 5 + n + 3;
                Check.due("symbol " + s + " and " + more, x.open(131072), out <= 8000 ? out : n + 3 <= 131072 ? -17 : -30);
                Check.due("symbol " + s + " and " + more, x.sequence(0, 0), n + 3 <= 131072 ? n : -2);
                if (n > 0) {
                    Check.fault("one letter less", Make.join(before, Make.packed(true, Make.allOf(9, n - 1), section)), 19, 10 + 3 + 4 + 5);
                }
            }
        }
    }

    private static void orderOfBits() {
        Check.says("(In this order: bits of the VALUE, of COPY, of LETTERS.) Then, but for the last one, the STATES of LETTERS, COPIES, OFFSETS go on.");
        byte[] row = Make.reversed(5, 4, 1, 1, 2, 2);
        TabledFrames x = Check.fine("all three have bits", Make.one(Make.allOf('o', 30), Make.onlySymbols(1, 20, 4, 33, row)), 30 + 38);
        Check.sequence("all three have bits", x, 0, 26, 38, 21, 18);
        States[] tables = {new States(5, 8, 8, 16), new States(5, 0, 0, 24, 8), new States(5, 12, 12, 8)};
        List<int[]> all = List.of(new int[] {2, 3, 4}, new int[] {1, 4, 5}, new int[] {0, 5, 9}, new int[] {2, 3, 7});
        byte[] told = Make.join(Make.counts(5, tables[0].counts), Make.counts(5, tables[1].counts), Make.counts(5, tables[2].counts));
        x = Check.fine("states go on", Make.one(Make.plain(Make.text("abcde")), Make.bytes(4, 0xA8), told, Model.sequenceRow(tables, all)), 5 + 15);
        for (int i = 0; i < 4; i++) {
            int[] q = all.get(i);
            Check.sequence("states go on", x, i, q[0], q[1], q[2], q[2] - 3);
        }
    }

    private static void lastDoesNotGoOn() {
        Check.says("but for the last one, the STATES of LETTERS, COPIES, OFFSETS go on. All bits are taken then.");
        States letters = new States(5, 0, 16, 16);
        byte[] head = Make.join(Make.bytes(1, 0x94), Make.counts(5, 0, 16, 16), Make.bytes(0, 0));
        int row = SECTION + head.length;
        Check.fine("no bit behind the last", abcd(head, Make.reversed(3, 5)), 7);
        Check.fault("a bit by which it might go on", abcd(head, Make.reversed(3, 5, 0, 1)), 17, row);
        head[0] = 2;
        Check.fault("no bit behind the first of two", abcd(head, Make.reversed(3, 5)), 17, row);
        Check.fine("a bit behind the first of two", abcd(head, Make.reversed(3, 5, 0, 1)), 10);
        Check.due("it has one", letters.bits[3], 1);
        Check.fault("two bits behind the first of two", abcd(head, Make.reversed(3, 5, 0, 2)), 17, row);
    }

    private static void oneSequence() {
        Check.says("A SEQUENCE: so many LETTERS come out, then COPY bytes, each the one OFFSET before it.");
        Check.fine("the byte before", abcd(Make.onlySymbols(1, 4, 2, 5, Make.reversed(0, 2))), Make.text("abcddddddddd"));
        Check.fine("into itself", abcd(Make.onlySymbols(1, 4, 2, 5, Make.reversed(1, 2))), Make.text("abcdcdcdcdcd"));
        Check.fine("from the first byte", abcd(Make.onlySymbols(1, 4, 2, 0, Make.reversed(3, 2))), Make.text("abcdabc"));
        Check.fine("no letters", Make.join(Make.wide(), Make.block(false, 0, 4, ABCD), Make.packed(true, NO_LETTERS, Make.onlySymbols(1, 0, 2, 1, Make.reversed(3, 2)))), Make.text("abcdabcd"));
        Check.fine("all letters first", abcd(Make.onlySymbols(2, 2, 2, 0, Make.reversed(1, 2, 0, 2))), Make.text("ab" + "aba" + "cd" + "ddd"));
    }

    /** Blocks of one copy of three each behind the alphabet, by these VALUES. */
    private static TabledFrames remembering(int letters, int... values) {
        byte[] all = Make.join(Make.wide(), Make.block(false, 0, 26, Make.text("abcdefghijklmnopqrstuvwxyz")));
        for (int i = 0; i < values.length; i++) {
            int s = Model.log(values[i]);
            all = Make.join(all, Make.packed(i == values.length - 1, Make.plain(Make.same('-', letters)),
                Make.onlySymbols(1, letters, s, 0, Make.reversed(values[i] - (1 << s), s))));
        }
        return Check.fine("values", all, 26 + (letters + 3) * values.length);
    }

    private static void rememberedNew() {
        Check.says("VALUE above 3: OFFSET is 3 less; it is REMEMBERED as the first, those before as second and third.");
        for (int letters = 0; letters < 2; letters++) {
            TabledFrames x = remembering(letters, 4);
            Check.sequence("4 is the least", x, 0, letters, 3, 4, 1);
            Check.told("4 is the least", x, 6, 1, 1, 4);
            x = remembering(letters, 29);
            Check.sequence("29", x, 0, letters, 3, 29, 26);
            Check.told("29", x, 6, 26, 1, 4);
            x = remembering(letters, 20, 10, 15);
            Check.told("three new ones", x, 6, 12, 7, 17);
            x = remembering(letters, 20, 20);
            Check.told("the same twice is told twice", x, 6, 17, 17, 1);
        }
    }

    private static void rememberedTaken() {
        Check.says("VALUE 1, 2, 3 (and 1 more, if LETTERS is 0): the first, second, third REMEMBERED; 4: the first less 1.");
        int[] first = {1, 4, 8};
        for (int value = 1; value <= 3; value++) {
            Check.sequence("with letters, " + value, remembering(1, value), 0, 1, 3, value, first[value - 1]);
        }
        for (int value = 1; value <= 2; value++) {
            Check.sequence("without, " + value, remembering(0, value), 0, 0, 3, value, first[value]);
        }
        TabledFrames x = remembering(0, 5, 3);
        Check.sequence("the first less 1 is 1", x, 1, 0, 3, 3, 1);
        Check.told("the first less 1 is 1", x, 6, 1, 2, 1);
        x = remembering(0, 20, 3, 3);
        Check.sequence("the first less 1, twice", x, 2, 0, 3, 3, 15);
        Check.told("the first less 1, twice", x, 6, 15, 16, 17);
        Check.sequence("with letters 3 is the third", remembering(1, 20, 3), 1, 1, 3, 3, 4);
    }

    private static void secondLeavesThird() {
        Check.says("The one taken (or made) becomes the first, those before it move up (the second leaves the third).");
        int[][] want = {{17, 7, 12}, {7, 17, 12}, {12, 17, 7}};
        for (int value = 1; value <= 3; value++) {
            Check.told("with letters, " + value, remembering(1, 15, 10, 20, value), 6, want[value - 1]);
        }
        int[][] without = {{7, 17, 12}, {12, 17, 7}, {16, 17, 7}};
        for (int value = 1; value <= 3; value++) {
            Check.told("without, " + value, remembering(0, 15, 10, 20, value), 6, without[value - 1]);
        }
    }

    private static void atTheBeginning() {
        Check.says("At a FRAME's beginning they are 1, 4, 8, or the dictionary's.");
        byte[] copy = Make.packed(true, NO_LETTERS, Make.onlySymbols(1, 0, 4, 0, Make.reversed(4, 4)));
        byte[] frame = Make.join(Make.wide(), Make.block(false, 1, 26, Make.bytes('r')), copy);
        Check.told("behind a sequence", Check.fine("one", frame, 29), 6, 17, 1, 4);
        byte[] empty = Make.join(Make.wide(), Make.block(true, 0, 0));
        Check.told("in the next frame", Check.fine("two", Make.join(frame, empty), 29), 6, 1, 4, 8);
        TabledFrames x = Check.fault("a next frame whose head has a fault", Make.join(frame, Make.head(8)), 3, frame.length + 4);
        Check.told("has no beginning", x, 6, 17, 1, 4);
        x = Check.with(DictionaryTest.dictionary(9, new int[] {3, 7, 30}, new byte[30]));
        Check.due("keep", x.keep(), 9);
        Check.load(x, Make.join(Make.head(1, 0x38, 9), Make.block(true, 0, 0)));
        Check.due("open", x.open(131072), 0);
        Check.told("the dictionary's", x, 6, 3, 7, 30);
        Check.load(x, Make.join(Make.head(1, 0x38, 9), Make.block(true, 0, 0), empty));
        Check.due("open", x.open(131072), 0);
        Check.told("where it does not count", x, 6, 1, 4, 8);
    }

    private static void lettersLeft() {
        Check.says("Behind the last SEQUENCE what letters are left come out.");
        for (int n = 0; n <= 4; n++) {
            byte[] frame = Make.join(Make.wide(), Make.block(false, 0, 1, Make.text("-")), Make.packed(true, Make.plain(ABCD), Make.onlySymbols(1, n, 2, 0, Make.reversed(0, 2))));
            String last = n == 0 ? "---" : "abcd".substring(n - 1, n).repeat(3);
            Check.fine(4 - n + " are left", frame, Make.text("-" + "abcd".substring(0, n) + last + "abcd".substring(n)));
        }
    }

    private static void headLacks() {
        Check.says("FAULT 14: the head is not in the block.");
        for (int[] head : new int[][] {{}, {1}, {127}, {128}, {128, 1}, {254, 255}, {255}, {255, 0}, {255, 0, 0}}) {
            Check.fault(head.length + " bytes", abcd(Make.bytes(head)), 14, SECTION);
            byte[] more = Make.join(Make.wide(), Make.packed(false, Make.plain(ABCD), Make.bytes(head)), Make.block(true, 0, 9, new byte[9]));
            TabledFrames x = Check.fault(head.length + " bytes, and others behind the block", more, 14, SECTION);
            Check.told("its letters were through", x, 0, 1, 1, 0, 4, 0, 0);
        }
    }

    private static void tableFaults() {
        Check.says("15 (see 2), also bytes that are not there, an only symbol above the greatest.");
        for (int kind = 0; kind < 3; kind++) {
            byte[] only = Make.bytes(1, 1 << (6 - 2 * kind));
            Check.fault("no symbol", abcd(only), 15, SECTION + 2);
            for (int s : new int[] {0, GREATEST[kind] - 1, GREATEST[kind], GREATEST[kind] + 1, 127, 128, 255}) {
                boolean fits = s <= GREATEST[kind];
                TabledFrames x = Check.fault("only symbol " + s, abcd(only, Make.bytes(s)), fits ? 17 : 15, SECTION + 2 + (fits ? 1 : 0));
                Check.due("only symbol " + s, x.table(kind, 0, 0), fits ? s : -3);
            }
            byte[] counts = Make.counts(6, 20, 10, 0, 0, 0, 0, 1, -1, 32);
            byte[] told = Make.bytes(1, 2 << (6 - 2 * kind));
            for (int n = 0; n < counts.length; n++) {
                Check.fault(n + " bytes of counts", abcd(told, Make.first(counts, n)), 15, SECTION + 2);
                byte[] more = Make.join(Make.wide(), Make.packed(false, Make.plain(ABCD), told, Make.first(counts, n)), Make.block(true, 0, 9, new byte[9]));
                Check.fault(n + " bytes, and others behind the block", more, 15, SECTION + 2);
            }
            Check.fault("all bytes of counts", abcd(told, counts), 17, SECTION + 2 + counts.length);
        }
    }

    private static void noSuchTable() {
        Check.says("16: no such table.");
        for (int kind = 0; kind < 3; kind++) {
            TabledFrames x = Check.fault("kind " + kind, abcd(Make.bytes(1, 3 << (6 - 2 * kind)), Make.bytes(0, 0, 1)), 16, SECTION);
            for (int other = 0; other < 3; other++) {
                Check.due("tables before it stand", x.table(other, -1, 0), other < kind ? new int[] {6, 5, 6}[other] : -3);
            }
        }
        Check.fault("15 of the first before 16 of the second", abcd(Make.bytes(1, 0x70, 36)), 15, SECTION + 2);
        Check.fault("16 of the first before 15 of the second", abcd(Make.bytes(1, 0xD0, 36)), 16, SECTION);
        byte[] none = Make.packed(false, Make.plain(ABCD), Make.bytes(0));
        Check.fault("a block without sequences has none", Make.join(Make.wide(), none, Make.packed(true, Make.plain(ABCD), Make.bytes(1, 0xFC, 1))), 16, 6 + none.length + 3 + 7);
    }

    private static void rowFaults() {
        Check.says("17: no MARK, bits that are not there (as they are wanted), bits left over.");
        byte[] head = Make.bytes(1, 0x54, 4, 2, 32);
        int row = SECTION + 5;
        Check.fault("no byte", abcd(head), 17, row);
        Check.fault("a byte of 0", abcd(head, Make.bytes(0)), 17, row);
        Check.fault("a last byte of 0", abcd(head, Make.bytes(0xFF, 0)), 17, row);
        for (int bits = 0; bits < 12; bits++) {
            byte[] frame = abcd(head, Make.reversed(0, bits));
            if (bits == 3) {
                Check.fine("just the bits of a value and a copy", frame, 4 + 35);
            } else {
                TabledFrames x = Check.fault(bits + " bits of three", frame, 17, row);
                Check.told("bits left over are behind the sequence", x, 4, bits > 3 ? 1 : 0);
            }
        }
        byte[] byDefault = Make.bytes(1, 0);
        for (int bits = 0; bits < 17; bits++) {
            TabledFrames x = Check.fault(bits + " bits of states", abcd(byDefault, Make.reversed(0, bits)), 17, SECTION + 2);
            Check.due("no sequence", x.told(4), 0);
        }
        Check.fine("no bits at all", manyCopies(Make.bytes(5)), 4 + 15);
        Check.fault("one bit, where none is wanted", Make.join(Make.wide(), Make.block(false, 0, 4, ABCD), Make.packed(true, NO_LETTERS, Make.onlySymbols(5, 0, 0, 0, Make.bytes(2)))), 17, 13 + 3 + 1 + 5);
    }

    private static void offsetZero() {
        Check.says("18: an OFFSET 0;");
        byte[] frame = Make.join(Make.wide(), Make.block(false, 0, 4, ABCD), Make.packed(true, NO_LETTERS, Make.onlySymbols(1, 0, 1, 0, Make.reversed(1, 1))));
        TabledFrames x = Check.fault("the first less 1", frame, 18, 13 + 3 + 1 + 5);
        Check.told("it was not through", x, 4, 0, 4, 1, 4, 8);
        x = Check.with(DictionaryTest.dictionary(9, new int[] {1, 7, 30}, new byte[30]));
        Check.due("keep", x.keep(), 9);
        Check.load(x, Make.join(Make.head(1, 0x38, 9), Make.packed(true, NO_LETTERS, Make.onlySymbols(1, 0, 1, 0, Make.reversed(1, 1)))));
        Check.fault("the dictionary's first less 1", x, 131072, 18, 7 + 3 + 1 + 5);
    }

    private static void offsetTooFar() {
        Check.says("above what came out in this FRAME and the dictionary's CONTENT together;");
        for (int content = 0; content <= 3; content++) {
            TabledFrames x = new TabledFrames();
            x.fill(content, 1, 0);
            Check.due("keep", x.keep(), 0);
            for (int came = 0; came <= 9; came++) {
                for (int offset = 1; offset <= 12; offset++) {
                    int s = Model.log(offset + 3);
                    byte[] before = Make.join(Make.head(0, 0), Make.block(true, 0, 9, new byte[9]), Make.head(0, 0), Make.block(false, 1, came, Make.bytes(1)));
                    byte[] copy = Make.packed(true, NO_LETTERS, Make.onlySymbols(1, 0, s, 0, Make.reversed(offset + 3 - (1 << s), s)));
                    Check.load(x, Make.join(before, copy));
                    boolean fits = offset <= came + content;
                    Check.due(offset + " behind " + content + " and " + came, x.open(1024), fits ? 9 + came + 3 : -28);
                    Check.due("place", x.place(), fits ? -1 : before.length + 3 + 1 + 5);
                }
            }
        }
        Check.says("so many LETTERS come out, then COPY bytes");
        Check.fine("its own letters count", abcd(Make.onlySymbols(1, 4, 2, 0, Make.reversed(3, 2))), 7);
        Check.fault("letters behind it do not", abcd(Make.onlySymbols(1, 3, 2, 0, Make.reversed(3, 2))), 18, SECTION + 5);
    }

    private static void offsetAboveSpan() {
        Check.says("above the SPAN, if it does not reach the CONTENT; one that does, when more than the SPAN came out.");
        TabledFrames x = new TabledFrames();
        x.fill(50, 1, 0);
        Check.due("keep", x.keep(), 0);
        for (int came = 1020; came <= 1028; came++) {
            byte[] before = Make.join(Make.head(0, 0), Make.block(false, 1, 1000, Make.bytes(1)), Make.block(false, 1, came - 1000, Make.bytes(2)));
            for (int offset = 1021; offset <= came + 52; offset++) {
                byte[] copy = Make.packed(true, NO_LETTERS, Make.onlySymbols(1, 0, 10, 0, Make.reversed(offset + 3 - 1024, 10)));
                Check.load(x, Make.join(before, copy));
                boolean reaches = offset > came;
                boolean fits = reaches ? offset <= came + 50 && came <= 1024 : offset <= 1024;
                Check.due(offset + " behind " + came, x.open(1024), fits ? came + 3 : -28);
            }
        }
    }

    private static void tooManyLetters() {
        Check.says("19: more LETTERS than there are.");
        for (int n = 0; n <= 6; n++) {
            byte[] frame = Make.join(Make.wide(), Make.block(false, 0, 1, Make.text("-")), Make.packed(true, Make.plain(ABCD), Make.onlySymbols(1, n, 2, 0, Make.reversed(0, 2))));
            if (n <= 4) {
                Check.fine(n + " of four", frame, 8);
            } else {
                TabledFrames x = Check.fault(n + " of four", frame, 19, 10 + 3 + 7 + 5);
                Check.told(n + " of four", x, 4, 0, 1, 1, 4, 8);
            }
        }
        for (int n = 1; n <= 4; n++) {
            Check.fine(n + " times two of eight", Make.one(Make.plain(Make.text("abcdefgh")), Make.onlySymbols(n, 2, 2, 0, Make.reversed(0, 2 * n))), 8 + 3 * n);
        }
        TabledFrames x = Check.fault("five times two of eight", Make.one(Make.plain(Make.text("abcdefgh")), Make.onlySymbols(5, 2, 2, 0, Make.reversed(0, 10))), 19, 9 + 11 + 5);
        Check.due("four were through", x.told(4), 4);
    }

    private static void aboveLimit() {
        Check.says("20: more than LIMIT bytes come out of the block (behind the LETTERS, the COPY of each SEQUENCE, and at the end).");
        byte[] letters = Make.allOf('a', 40);
        int row = 6 + 3 + 4 + 5;
        byte[] two = Make.onlySymbols(1, 2, 2, 1, Make.reversed(0, 2));
        Check.fine("at the end, just", small(44, letters, two), Make.same('a', 44));
        TabledFrames x = Check.fault("at the end, one more", small(43, letters, two), 20, row);
        Check.told("the sequence was through", x, 2, 0, 40, 1, 0, 1, 1, 4);
        byte[] copy = Make.onlySymbols(1, 2, 2, 40, Make.reversed(0, 2, 0, 4));
        byte[] few = Make.allOf('a', 2);
        Check.fine("behind a copy, just", small(69, few, copy), Make.same('a', 69));
        x = Check.fault("behind a copy, one more", small(68, few, copy), 20, row);
        Check.told("it was not through", x, 2, 0, 2, 0, 0, 1, 4, 8);
        byte[] twice = Make.onlySymbols(2, 15, 2, 10, Make.reversed(0, 2, 0, 2));
        byte[] thirty = Make.allOf('a', 30);
        Check.fine("behind the second copy, just", small(56, thirty, twice), Make.same('a', 56));
        Check.due("behind the second copy", Check.fault("one more", small(55, thirty, twice), 20, row).told(4), 1);
        Check.due("behind the second letters, just", Check.fault("then its copy", small(43, thirty, twice), 20, row).told(4), 1);
        Check.due("behind the second letters", Check.fault("one more", small(42, thirty, twice), 20, row).told(4), 1);
        byte[] before = Make.join(Make.head(0, 0), Make.block(false, 1, 1024, Make.bytes('b')));
        Check.fine("of the block alone", Make.join(before, Make.packed(true, Make.allOf('a', 1020), two)), 1024 + 1024);
        Check.fault("of the block, one more", Make.join(before, Make.packed(true, Make.allOf('a', 1021), two)), 20, 10 + 3 + 4 + 5);
        byte[] most = Make.onlySymbols(1, 1, 2, 52, Make.reversed(0, 2, 65532, 16));
        Check.due("131072 of the block", Check.with(Make.one(Make.allOf('a', 1), most)).open(131072), -17);
        byte[] wide = Make.onlySymbols(2, 0, 2, 52, Make.reversed(0, 2, 65535, 16, 0, 2, 0, 16));
        byte[] start = Make.join(Make.wide(), Make.block(false, 1, 1, Make.bytes('b')));
        Check.fault("a copy of 131074", Make.join(start, Make.packed(true, NO_LETTERS, wide)), 20, 10 + 3 + 1 + 5);
    }

    private static void places() {
        Check.says("PLACES: 14, 16 the section's first byte, 15 where the COUNTS, the symbol begin, the others the REVERSED ROW's.");
        byte[] before = Make.join(Make.wide(), Make.block(false, 0, 4, ABCD));
        byte[] letters = Make.plain(ABCD);
        int at = before.length + 3 + letters.length;
        byte[] counts = Make.counts(5, 16, 16);
        Check.fault("14", Make.join(before, Make.packed(true, letters)), 14, at);
        Check.fault("14 of three bytes", Make.join(before, Make.packed(true, letters, Make.bytes(255, 0, 0, 1))), 14, at);
        Check.fault("15 of a symbol", Make.join(before, Make.packed(true, letters, Make.bytes(1, 0x54, 36))), 15, at + 2);
        Check.fault("15 of the second symbol", Make.join(before, Make.packed(true, letters, Make.bytes(1, 0x54, 0, 32))), 15, at + 3);
        Check.fault("15 of the third symbol", Make.join(before, Make.packed(true, letters, Make.bytes(1, 0x54, 0, 0, 53))), 15, at + 4);
        Check.fault("15 of the third counts", Make.join(before, Make.packed(true, letters, Make.bytes(1, 0xA8), counts, counts, Make.bytes(5))), 15, at + 2 + 2 * counts.length);
        Check.fault("15 behind a head of three bytes", Make.join(before, Make.packed(true, letters, Make.bytes(255, 0, 0, 0x80, 5))), 15, at + 4);
        Check.fault("16 of the third", Make.join(before, Make.packed(true, letters, Make.bytes(1, 0xAC), counts, counts)), 16, at);
        byte[] head = Make.bytes(1, 0xA4);
        int row = at + 2 + 2 * counts.length + 1;
        Check.fault("17", Make.join(before, Make.packed(true, letters, head, counts, counts, Make.bytes(0))), 17, row);
        byte[] symbols = Make.bytes(1, 0x54, 4, 4, 0);
        Check.fault("18", Make.join(before, Make.packed(true, letters, symbols, Make.reversed(15, 4))), 18, at + 5);
        Check.fault("19", Make.join(before, Make.packed(true, letters, Make.bytes(1, 0x54, 5, 2, 0), Make.reversed(0, 2))), 19, at + 5);
        Check.fault("20", Make.join(Make.head(32, 14), Make.packed(true, letters, Make.bytes(1, 0x54, 4, 2, 8), Make.reversed(0, 2))), 20, 6 + 3 + 7 + 5);
    }

    private static void orderOfOne() {
        Check.says("(Of a SEQUENCE all bits are taken, with those by which the STATES go on, 17, before 19, 18, 20;");
        int row = 6 + 3 + 4 + 5;
        byte[] eight = Make.allOf('a', 8);
        Check.fault("17 before 19", small(50, eight, Make.onlySymbols(1, 9, 4, 27, Make.reversed(7, 3))), 17, row);
        Check.fault("17 before 18", small(50, eight, Make.onlySymbols(1, 8, 4, 27, Make.reversed(7, 3))), 17, row);
        Check.fault("17 before 20", small(20, eight, Make.onlySymbols(1, 8, 2, 27, Make.reversed(0, 1))), 17, row);
        States states = new States(5, 16, 0, 0, 0, 0, 0, 0, 0, 0, 16);
        byte[] head = Make.join(Make.bytes(2, 0x94), Make.counts(5, states.counts), Make.bytes(4, 27));
        int wide = 6 + 3 + 4 + head.length;
        Check.fault("17 of a state that goes on before 19", small(50, eight, head, Make.reversed(states.first(9), 5, 15, 4)), 17, wide);
        Check.fault("19 if it goes on", small(50, eight, head, Make.reversed(states.first(9), 5, 15, 4, 0, 1)), 19, wide);
        Check.fault("19 before 18 and 20", small(20, eight, Make.onlySymbols(1, 9, 4, 27, Make.reversed(15, 4))), 19, row);
        Check.fault("18 before 20 behind a copy", small(20, eight, Make.onlySymbols(1, 8, 4, 27, Make.reversed(15, 4))), 18, row);
        byte[] twice = Make.onlySymbols(2, 15, 5, 10, Make.reversed(1, 5, 31, 5));
        Check.fault("18 of the first", small(42, Make.allOf('a', 30), twice), 18, row);
        byte[] second = Make.onlySymbols(2, 15, 4, 10, Make.reversed(0, 4, 15, 4));
        Check.fault("20 behind the letters, if the offset is right", small(42, Make.allOf('a', 30), second), 20, row);
        byte[] six = Make.onlySymbols(2, 25, 6, 0, Make.reversed(0, 6, 0, 6, 63, 6, 0, 6));
        Check.due("20 behind the letters, if the offset is right", Check.fault("20", small(130, Make.allOf('a', 128), six), 20, row).told(4), 1);
        byte[] seven = Make.onlySymbols(2, 25, 7, 0, Make.reversed(0, 7, 61, 6, 127, 7, 0, 6));
        Check.due("18 before 20 behind the letters", Check.fault("18 before 20", small(191, Make.allOf('a', 189), seven), 18, row).told(4), 1);
    }

    private static void leftOverBehindAll() {
        Check.says("17 for bits left over behind all.)");
        int row = 6 + 3 + 4 + 5;
        byte[] eight = Make.allOf('a', 8);
        Check.fault("19 before it", small(50, eight, Make.onlySymbols(1, 9, 2, 0, Make.reversed(0, 2, 0, 1))), 19, row);
        Check.fault("18 before it", small(50, eight, Make.onlySymbols(1, 8, 4, 0, Make.reversed(15, 4, 0, 1))), 18, row);
        Check.fault("20 behind a copy before it", small(20, eight, Make.onlySymbols(1, 8, 2, 27, Make.reversed(0, 2, 0, 1))), 20, row);
        Check.fault("20 at the end before it", small(18, Make.allOf('a', 15), Make.onlySymbols(1, 2, 2, 1, Make.reversed(0, 2, 0, 1))), 20, row);
        Check.fault("it, where nothing else is", small(19, Make.allOf('a', 15), Make.onlySymbols(1, 2, 2, 1, Make.reversed(0, 2, 0, 1))), 17, row);
        TabledFrames x = Check.fault("it, before 7", Make.join(Make.wide(), Make.packed(true, Make.allOf('a', 8000), Make.onlySymbols(1, 2, 2, 1, Make.reversed(0, 2, 0, 1)))), 17, row);
        Check.told("the sequence was through, the block was not", x, 2, 0, 8000, 1, 0, 1, 1, 4);
    }
}

import java.util.ArrayList;
import java.util.List;
import java.util.Random;

/** Promises 11, 16, 17 and 18 by sections 2 and 4: tables, sequences, remembered offsets, faults 14 to 20. */
public final class SequencesTest {
    private static final byte[] ABCD = Make.text("abcd");
    /** Where the section begins behind the letters abcd in a frame of one block. */
    private static final int SECTION = 9 + 3 + 4;

    private SequencesTest() {
    }

    public static void main(String[] args) {
        ordinary();
        remembered();
        lengths();
        howMany();
        heads();
        tables();
        wrongTables();
        theTableBefore();
        rows();
        offsets();
        limits();
        order();
        Check.end();
    }

    private static byte[] abcd(byte[]... section) {
        return Make.one(Make.plain(ABCD), Make.join(section));
    }

    private static void ordinary() {
        byte[] frame = abcd(Make.onlySymbols(1, 4, 2, 0, Make.reversed(3, 2)));
        TabledFrames x = Check.fine("a copy", frame, Make.text("abcdabc"));
        Check.told("a copy", x, 0, 1, 1, 1, 4, 1, 7, 4, 1, 4, 131072, -1, 0);
        Check.sequence("a copy", x, 0, 4, 3, 7, 4);
        Check.due("no such what", x.sequence(0, 4), -2);
        Check.due("no such what", x.sequence(0, -1), -2);
        Check.due("no such sequence", x.sequence(1, 0), -2);
        Check.due("no such sequence", x.sequence(-1, 0), -2);
        frame = abcd(Make.onlySymbols(2, 1, 2, 2, Make.reversed(0, 2, 1, 2)));
        x = Check.fine("into itself, and letters left", frame, Make.text("aaaaaabababacd"));
        Check.sequence("the second", x, 1, 1, 5, 5, 2);
        frame = Make.join(Make.wide(), Make.packed(false, Make.plain(ABCD), Make.onlySymbols(1, 4, 2, 0, Make.reversed(3, 2))),
            Make.packed(true, Make.plain(Make.text("e")), Make.onlySymbols(1, 0, 3, 1, Make.reversed(2, 3))));
        x = Check.fine("two blocks", frame, Make.text("abcdabcabcde"));
        Check.told("two blocks", x, 0, 1, 2, 2, 5, 2, 12, 7, 4, 1);
        Check.sequence("of the second block", x, 1, 0, 4, 10, 7);
        byte[] wide = Make.one(Make.plain(ABCD), Make.bytes(1, 0), Make.reversed(
            States.byDefault(0).first(4), 6, States.byDefault(1).first(2), 5, States.byDefault(2).first(0), 6, 3, 2));
        Check.fine("by default tables", wide, Make.text("abcdabc"));
    }

    private static byte[] remembering(int letters, int... values) {
        byte[][] blocks = new byte[values.length + 2][];
        blocks[0] = Make.wide();
        blocks[1] = Make.block(false, 0, 26, Make.text("abcdefghijklmnopqrstuvwxyz"));
        for (int i = 0; i < values.length; i++) {
            int s = Model.log(values[i]);
            blocks[i + 2] = Make.packed(i == values.length - 1, Make.plain(Make.same('-', letters)),
                Make.onlySymbols(1, letters, s, 0, Make.reversed(values[i] - (1 << s), s)));
        }
        return Make.join(blocks);
    }

    private static void offsetsBy(String what, int letters, int[] values, int[] want, int... last) {
        TabledFrames x = Check.fine(what, remembering(letters, values), 26 + (letters + 3) * values.length);
        for (int i = 0; i < want.length; i++) {
            Check.sequence(what, x, i, letters, 3, values[i], want[i]);
        }
        Check.told(what, x, 6, last);
    }

    private static void remembered() {
        offsetsBy("the first", 1, new int[] {1}, new int[] {1}, 1, 4, 8);
        offsetsBy("the second", 1, new int[] {2}, new int[] {4}, 4, 1, 8);
        offsetsBy("the third", 1, new int[] {3}, new int[] {8}, 8, 1, 4);
        offsetsBy("a new one", 1, new int[] {4}, new int[] {1}, 1, 1, 4);
        offsetsBy("without letters, the second", 0, new int[] {1}, new int[] {4}, 4, 1, 8);
        offsetsBy("without letters, the third", 0, new int[] {2}, new int[] {8}, 8, 1, 4);
        offsetsBy("without letters, the first less 1", 0, new int[] {13, 3}, new int[] {10, 9}, 9, 10, 1);
        offsetsBy("many", 2, new int[] {20, 9, 3, 2, 1, 3, 15, 1}, new int[] {17, 6, 1, 6, 6, 17, 12, 12}, 12, 17, 6);
        offsetsBy("many without letters", 0, new int[] {20, 9, 2, 1, 3, 1, 3}, new int[] {17, 6, 1, 6, 5, 6, 5}, 5, 6, 5);
        TabledFrames x = Check.fault("the first less 1 is 0", remembering(0, 3), 18, 6 + 29 + 3 + 3 + 5);
        Check.told("the first less 1 is 0", x, 4, 0, 26, 1, 4, 8);
        byte[] two = Make.join(remembering(1, 20, 9), remembering(1, 1));
        Check.told("anew in each frame", Check.fine("two frames", two, 34 + 30), 6, 1, 4, 8);
    }

    /** Each symbol's length, with bits of 0 and of 1, told even if the block is too long to come out. */
    private static void lengths() {
        for (int s = 0; s < 53; s++) {
            for (int ones = 0; ones < 2; ones++) {
                int bits = Model.COPIES_BITS[s];
                long more = ones == 0 ? 0 : (1L << bits) - 1;
                int copy = Model.COPIES_BASE[s] + (int) more;
                byte[] frame = abcd(Make.onlySymbols(1, 4, 2, s, Make.reversed(3, 2, more, bits)));
                int out = 4 + copy;
                TabledFrames x = Check.with(frame);
                Check.due("copy of symbol " + s, x.open(131072), out <= 8000 ? out : out <= 131072 ? -17 : -30);
                Check.due("copy of symbol " + s, x.sequence(0, 1), out <= 131072 ? copy : -2);
            }
        }
        for (int s = 0; s < 36; s++) {
            for (int ones = 0; ones < 2; ones++) {
                int bits = Model.LETTERS_BITS[s];
                long more = ones == 0 ? 0 : (1L << bits) - 1;
                int count = Model.LETTERS_BASE[s] + (int) more;
                byte[] frame = Make.join(Make.wide(), Make.block(false, 1, 5, Make.bytes(7)), Make.packed(true, Make.allOf(9, count),
                    Make.onlySymbols(1, s, 2, 0, Make.reversed(0, 2, more, bits))));
                TabledFrames x = Check.with(frame);
                int out = 5 + count + 3;
                Check.due("letters of symbol " + s, x.open(131072), out <= 8000 ? out : count + 3 <= 131072 ? -17 : -30);
                Check.due("letters of symbol " + s, x.sequence(0, 0), count + 3 <= 131072 ? count : -2);
            }
        }
        Check.due("published copies", Model.COPIES_BASE[46], 1027);
        Check.due("published copies", Model.COPIES_BASE[52], 65539);
        Check.due("published letters", Model.LETTERS_BASE[35], 65536);
    }

    private static void howMany() {
        for (int n : new int[] {1, 127, 128, 255, 256, 1999, 2000, 2001, 2600, 2665, 32511, 32512, 40000}) {
            byte[] frame = Make.join(Make.wide(), Make.block(false, 0, 4, ABCD),
                Make.packed(true, Make.plain(new byte[0]), Make.onlySymbols(n, 0, 0, 0, Make.bytes(1))));
            TabledFrames x = Check.with(frame);
            int out = 4 + 3 * n;
            Check.due(n + " sequences", x.open(131072), out <= 8000 ? out : -17);
            Check.told(n + " sequences", x, 4, n);
            Check.due("the last", x.sequence(Math.min(n, 2000) - 1, 1), 3);
            Check.due("none behind", x.sequence(Math.min(n, 2000), 1), -2);
        }
        byte[] three = Make.join(Make.bytes(255), Make.number(0, 2));
        byte[] two = Make.bytes(128, 3);
        byte[] frame = Make.join(Make.wide(), Make.block(false, 0, 4, ABCD),
            Make.packed(true, Make.plain(new byte[0]), two, Make.bytes(0x54, 0, 0, 0, 1)));
        Check.told("a small number in two bytes", Check.fine("3", frame, 13), 4, 3);
        frame = Make.join(Make.wide(), Make.block(false, 0, 4, ABCD), Make.packed(true, Make.plain(new byte[0]), three, Make.bytes(0x54, 0, 0, 0, 1)));
        Check.told("32512", Check.fault("32512", frame, 7, 13), 0, 1, 2, 0, 0, 32512, 4);
        frame = Make.join(Make.wide(), Make.block(false, 0, 4, ABCD), Make.packed(true, Make.plain(new byte[0]), Make.bytes(255, 255, 255), Make.bytes(0x54, 0, 0, 0, 1)));
        Check.told("98047", Check.fault("98047", frame, 20, 13 + 3 + 3 + 3 + 4), 4, 43690);
    }

    private static void heads() {
        Check.fine("none", abcd(Make.bytes(0)), ABCD);
        Check.fine("none in two bytes", abcd(Make.bytes(128, 0)), ABCD);
        TabledFrames x = Check.fault("no section", abcd(), 14, SECTION);
        Check.told("no section", x, 0, 1, 1, 0, 4, 0, 0);
        Check.fault("none, and a byte", abcd(Make.bytes(0, 0)), 14, SECTION);
        Check.fault("none in two bytes, and a byte", abcd(Make.bytes(128, 0, 0)), 14, SECTION);
        Check.fault("the second byte lacks", abcd(Make.bytes(128)), 14, SECTION);
        Check.fault("the third byte lacks", abcd(Make.bytes(255, 0)), 14, SECTION);
        Check.fault("no modes", abcd(Make.bytes(1)), 14, SECTION);
        Check.fault("no modes", abcd(Make.bytes(255, 0, 0)), 14, SECTION);
        for (int low = 1; low < 4; low++) {
            Check.fault("the lowest bits", abcd(Make.bytes(1, 0xFC | low)), 14, SECTION);
        }
    }

    private static void tables() {
        byte[] none = Make.plain(new byte[0]);
        States[] defaults = {States.byDefault(0), States.byDefault(1), States.byDefault(2)};
        TabledFrames x = Check.fault("default tables", Make.one(none, Make.bytes(1, 0)), 17, 9 + 3 + 2);
        for (int kind = 0; kind < 3; kind++) {
            defaults[kind].compare("default " + kind, x, kind);
            Check.due("what 3", x.table(kind, 0, 3), -2);
            Check.due("what -1", x.table(kind, -1, -1), -2);
        }
        Check.due("kind 3", x.table(3, 0, 0), -2);
        Check.due("kind -1", x.table(-1, 0, 0), -2);
        x = Check.fault("only symbols", Make.one(none, Make.bytes(1, 0x54, 35, 31, 52)), 17, 9 + 3 + 5);
        States.only(35).compare("only 35", x, 0);
        States.only(31).compare("only 31", x, 1);
        States.only(52).compare("only 52", x, 2);
        Random random = new Random(4);
        int[] greatest = {35, 31, 52};
        int[] most = {9, 8, 9};
        for (int turn = 0; turn < 60; turn++) {
            byte[] told = new byte[0];
            States[] tables = new States[3];
            for (int kind = 0; kind < 3; kind++) {
                int l = 5 + random.nextInt(most[kind] - 4);
                tables[kind] = new States(l, randomCounts(random, l, greatest[kind]));
                told = Make.join(told, Make.counts(l, tables[kind].counts));
            }
            x = Check.fault("told tables", Make.one(none, Make.bytes(1, 0xA8), told), 17, 9 + 3 + 2 + told.length);
            for (int kind = 0; kind < 3; kind++) {
                tables[kind].compare("told table " + kind, x, kind);
            }
            manySequences(random, tables, told);
        }
        int[] allLow = new int[32];
        java.util.Arrays.fill(allLow, -1);
        x = Check.fault("all are -1", Make.one(none, Make.bytes(1, 0x20), Make.counts(5, allLow)), 17, 9 + 3 + 2 + Make.counts(5, allLow).length);
        new States(5, allLow).compare("all are -1", x, 1);
    }

    private static int[] randomCounts(Random random, int l, int greatest) {
        int[] counts = new int[greatest + 1];
        int left = 1 << l;
        for (int s = 0; s <= greatest && left > 0; s++) {
            int c = random.nextInt(3) == 0 ? 0 : random.nextInt(4) == 0 ? -1 : random.nextInt(1 + Math.min(left, 1 << random.nextInt(l)));
            c = s == greatest ? left : c;
            counts[s] = c;
            left -= Math.abs(c);
        }
        int end = greatest;
        for (; counts[end] == 0; end--) {
            continue;
        }
        return java.util.Arrays.copyOf(counts, end + 1);
    }

    /** Sequences by the tables, with what they tell and what comes out by a slow copy. */
    private static void manySequences(Random random, States[] tables, byte[] told) {
        List<int[]> sequences = new ArrayList<>();
        StringBuilder out = new StringBuilder("0123456789abcdefghijklmnopqrstuvwxyzABCDEFGHIJKLMNOPQRSTUVWXYZ");
        StringBuilder letters = new StringBuilder();
        int start = out.length();
        byte[] first = Make.block(false, 0, start, Make.text(out.toString()));
        for (int i = 0; i < 40 && out.length() < 3000; i++) {
            int count = some(random, tables[0], Model.LETTERS_BASE, Model.LETTERS_BITS, 100);
            int copy = some(random, tables[2], Model.COPIES_BASE, Model.COPIES_BITS, 400);
            int s = tables[1].symbol[random.nextInt(tables[1].symbol.length)];
            if (count < 0 || copy < 0 || s < 3 || s > 15) {
                continue;
            }
            int value = (1 << s) + random.nextInt(1 << s);
            if (value - 3 > out.length() + count) {
                continue;
            }
            for (int k = 0; k < count; k++) {
                letters.append((char) (33 + random.nextInt(90)));
                out.append(letters.charAt(letters.length() - 1));
            }
            for (int k = 0; k < copy; k++) {
                out.append(out.charAt(out.length() - (value - 3)));
            }
            sequences.add(new int[] {count, copy, value});
        }
        if (sequences.isEmpty()) {
            return;
        }
        letters.append("the end");
        out.append("the end");
        byte[] frame = Make.join(Make.wide(), first, Make.packed(true, Make.plain(Make.text(letters.toString())),
            Make.bytes(sequences.size(), 0xA8), told, Model.sequenceRow(tables, sequences)));
        TabledFrames x = Check.fine("many sequences", frame, Make.text(out.toString()));
        for (int i = 0; i < sequences.size(); i++) {
            int[] q = sequences.get(i);
            Check.sequence("many sequences", x, i, q[0], q[1], q[2], q[2] - 3);
        }
    }

    private static int some(Random random, States table, int[] base, int[] bits, int most) {
        int s = table.symbol[random.nextInt(table.symbol.length)];
        int length = base[s] + random.nextInt(1 << bits[s]);
        return length > most ? -1 : length;
    }

    private static void wrongTables() {
        int[] greatest = {35, 31, 52};
        int[] most = {9, 8, 9};
        for (int kind = 0; kind < 3; kind++) {
            int shift = 6 - 2 * kind;
            byte[] only = Make.bytes(1, 1 << shift);
            int at = SECTION + 2;
            Check.fault("no only symbol", abcd(only), 15, at);
            TabledFrames x = Check.fault("an only symbol above", abcd(only, Make.bytes(greatest[kind] + 1)), 15, at);
            Check.due("it is no table", x.table(kind, 0, 0), -3);
            Check.fault("an only symbol of 255", abcd(only, Make.bytes(255)), 15, at);
            Check.fault("the greatest only symbol", abcd(only, Make.bytes(greatest[kind])), 17, at + 1);
            byte[] told = Make.bytes(1, 2 << shift);
            int half = 1 << most[kind];
            Check.fault("no counts", abcd(told), 15, at);
            Check.fault("l too great", abcd(told, Make.counts(most[kind] + 1, half, half), Make.bytes(255, 255)), 15, at);
            Check.fault("the greatest l", abcd(told, Make.counts(most[kind], half / 2, half / 2)), 17, at + Make.counts(most[kind], half / 2, half / 2).length);
            int[] above = new int[greatest[kind] + 2];
            above[0] = 31;
            above[greatest[kind] + 1] = 1;
            Check.fault("a symbol above", abcd(told, Make.counts(5, above), Make.bytes(1, 1, 1)), 15, at);
            int[] last = new int[greatest[kind] + 1];
            last[0] = 31;
            last[greatest[kind]] = 1;
            byte[] counts = Make.counts(5, last);
            Check.fault("the greatest symbol", abcd(told, counts), 17, at + counts.length);
            Check.fault("a byte of the counts lacks", abcd(told, Make.first(counts, counts.length - 1)), 15, at);
            Check.fault("zeros without end", abcd(told, Make.bytes(0x10, 0xFE), Make.same(255, 40)), 15, at);
        }
        TabledFrames x = Check.fault("the third is wrong", abcd(Make.bytes(1, 0x54, 4, 2, 53)), 15, SECTION + 4);
        Check.due("the first stands", x.table(0, 0, 0), 4);
        Check.due("the second stands", x.table(1, 0, 0), 2);
        Check.due("the third does not", x.table(2, 0, 0), -3);
        x = Check.fault("the first before the second", abcd(Make.bytes(1, 0x74, 4, 2, 53)), 16, SECTION);
        Check.due("the first stands", x.table(0, 0, 0), 4);
    }

    private static void theTableBefore() {
        byte[] first = Make.packed(false, Make.plain(ABCD), Make.onlySymbols(1, 4, 2, 0, Make.reversed(3, 2)));
        byte[] none = Make.packed(false, Make.plain(ABCD), Make.bytes(0));
        byte[] again = Make.packed(true, Make.plain(Make.text("efgh")), Make.bytes(1, 0xFC), Make.reversed(1, 2));
        TabledFrames x = Check.fine("only symbols before", Make.join(Make.wide(), first, none, again), Make.text("abcdabcabcdefghghg"));
        Check.sequence("only symbols before", x, 1, 4, 3, 5, 2);
        for (int kind = 0; kind < 3; kind++) {
            int shift = 6 - 2 * kind;
            Check.fault("none of kind " + kind, abcd(Make.bytes(1, 3 << shift)), 16, SECTION);
        }
        byte[] frame = Make.join(Make.wide(), first, again);
        x = Check.fault("none in this frame", Make.join(frame, Make.wide(), again), 16, frame.length + 6 + 3 + 7);
        Check.due("no table in the latest frame", x.table(0, 0, 0), -3);
        byte[] byDefault = Make.packed(false, Make.plain(ABCD), Make.bytes(1, 0), Make.reversed(
            States.byDefault(0).first(4), 6, States.byDefault(1).first(2), 5, States.byDefault(2).first(0), 6, 3, 2));
        byte[] last = Make.packed(true, Make.plain(ABCD), Make.bytes(1, 0xFC), Make.reversed(
            States.byDefault(0).first(4), 6, States.byDefault(1).first(2), 5, States.byDefault(2).first(0), 6, 3, 2));
        Check.fine("default ones before", Make.join(Make.wide(), byDefault, last), Make.text("abcdabcabcdabc"));
        x = Check.fine("passed over behind", Make.join(frame, Make.number(407710288L, 4), Make.number(0, 4)), 14);
        Check.due("the latest frame's table", x.table(0, 0, 0), 4);
        x.feed(0, 0);
        x.feed(5, 1);
        Check.fault("no frame", x, 5, 1, 1);
        for (int kind = 0; kind < 3; kind++) {
            Check.due("no table any more", x.table(kind, 0, 0), -3);
        }
    }

    private static void rows() {
        int row = SECTION + 5;
        byte[] head = Make.bytes(1, 0x54, 4, 2, 0);
        Check.fault("no row", abcd(head), 17, row);
        Check.fault("no mark", abcd(head, Make.bytes(255, 0)), 17, row);
        byte[] eight = Make.bytes(1, 0x54, 4, 2, 38);
        Check.fine("five bits", abcd(eight, Make.reversed(3, 2, 1, 3)), 4 + 52);
        byte[] seven = Make.bytes(1, 0x54, 4, 2, 42);
        Check.fault("eight bits, but no mark", abcd(Make.bytes(1, 0x54, 4, 2, 42), Make.bytes(0xE0, 0)), 17, row);
        Check.fault("seven bits, but no mark", abcd(seven, Make.bytes(0)), 17, row);
        byte[] wide = Make.join(Make.wide(), Make.packed(true, Make.plain(Make.same('a', 70)), Make.bytes(1, 0x54, 25, 2, 0), Make.bytes(0x86, 0)));
        Check.fault("two and six bits, but no mark", wide, 17, 9 + 3 + 70 + 5);
        TabledFrames x = Check.fault("a bit lacks", abcd(head, Make.reversed(1, 1)), 17, row);
        Check.told("a bit lacks", x, 0, 1, 1, 0, 4, 0, 0, 1, 4, 8);
        Check.due("a bit lacks", x.sequence(0, 0), -2);
        x = Check.fault("a bit left over", abcd(head, Make.reversed(3, 2, 0, 1)), 17, row);
        Check.told("the sequence was through", x, 0, 1, 1, 0, 4, 1, 0, 4, 1, 4);
        Check.sequence("the sequence was through", x, 0, 4, 3, 7, 4);
        Check.fault("a byte left over", abcd(head, Make.reversed(3, 2, 0, 8)), 17, row);
        Check.fault("states lack", abcd(Make.bytes(1, 0), Make.reversed(0, 16)), 17, SECTION + 2);
        States letters = States.byDefault(0);
        int state = letters.first(1);
        byte[] two = Make.bytes(2, 0x14, 2, 0);
        byte[] short2 = Make.reversed(state, 6, 3, 2, 0, letters.bits[state] - 1);
        x = Check.fault("bits to go on lack", abcd(two, short2), 17, SECTION + 4);
        Check.told("the first was not through", x, 4, 0);
    }

    private static void offsets() {
        for (int s = 0; s < 32; s++) {
            for (int ones = 0; ones < 2; ones++) {
                long more = ones == 0 ? 0 : (1L << s) - 1;
                long value = (1L << s) + more;
                long offset = value > 3 ? value - 3 : value == 1 ? 1 : value == 2 ? 4 : 8;
                byte[] frame = abcd(Make.onlySymbols(1, 4, s, 0, Make.reversed(more, s)));
                TabledFrames x = Check.with(frame);
                Check.due("value " + value, x.open(131072), offset <= 4 ? 7 : -28);
                Check.due("place", x.place(), offset <= 4 ? -1 : SECTION + 5);
            }
        }
        byte[] before = Make.join(Make.head(0, 0), Make.block(false, 1, 1000, Make.bytes(1)), Make.block(false, 1, 100, Make.bytes(2)));
        for (int offset = 1021; offset < 1030; offset++) {
            byte[] last = Make.packed(true, Make.plain(Make.text("z")), Make.onlySymbols(1, 1, 10, 0, Make.reversed(offset + 3 - 1024, 10)));
            TabledFrames x = Check.with(Make.join(before, last));
            Check.due("offset " + offset, x.open(1024), offset <= 1024 ? 1104 : -28);
            Check.told("offset " + offset, x, 6, offset <= 1024 ? offset : 1);
        }
        byte[] other = Make.join(Make.wide(), Make.block(true, 0, 4, ABCD));
        Check.fault("not of the frame before", Make.join(other, abcd(Make.onlySymbols(1, 4, 3, 0, Make.reversed(0, 3)))), 18, other.length + SECTION + 5);
    }

    private static byte[] small(int limit, byte[]... content) {
        return Make.join(Make.head(32, limit), Make.packed(true, content));
    }

    private static void limits() {
        byte[] letters = Make.allOf('a', 40);
        int row = 6 + 3 + 4 + 5;
        byte[] two = Make.onlySymbols(1, 2, 2, 1, Make.reversed(0, 2));
        TabledFrames x = Check.fault("19", small(99, Make.plain(ABCD), Make.onlySymbols(1, 5, 2, 1, Make.reversed(0, 2))), 19, 6 + 3 + 3 + 4 + 5);
        Check.told("19", x, 4, 0);
        x = Check.fault("19 of the second", small(99, Make.allOf('a', 8), Make.onlySymbols(2, 5, 2, 1, Make.reversed(0, 2, 0, 2))), 19, row);
        Check.told("19 of the second", x, 4, 1);
        Check.fine("just the limit", small(44, letters, two), Make.same('a', 44));
        x = Check.fault("at the end", small(43, letters, two), 20, row);
        Check.told("at the end", x, 0, 1, 1, 0, 40, 1, 0, 1, 1, 4);
        x = Check.fault("behind the copy", small(42, letters, Make.onlySymbols(1, 2, 2, 35, Make.reversed(0, 2, 0, 1))), 20, row);
        Check.told("behind the copy", x, 0, 1, 1, 0, 40, 0, 0, 1, 4, 8);
        byte[] twice = Make.onlySymbols(2, 15, 2, 10, Make.reversed(0, 2, 1, 2));
        x = Check.fault("behind the letters", small(42, letters, twice), 20, row);
        Check.told("behind the letters", x, 4, 1, 0, 1, 1, 4);
        x = Check.fault("behind the second copy", small(43, letters, twice), 20, row);
        Check.told("behind the second copy", x, 4, 1, 0, 1, 1, 4);
        Check.fault("40 letters, but 39 are the limit", small(39, letters, Make.bytes(0)), 10, 9);
    }

    /** The first that comes is the one that is told. */
    private static void order() {
        int row = 6 + 3 + 4 + 5;
        byte[] eight = Make.allOf('a', 8);
        Check.fault("17 before 19", small(50, eight, Make.onlySymbols(1, 9, 2, 0, Make.reversed(0, 1))), 17, row);
        Check.fault("17 before 18", small(50, eight, Make.onlySymbols(1, 4, 4, 36, Make.reversed(15, 4, 0, 1))), 17, row);
        Check.fault("18 before 17 of the next", small(50, eight, Make.onlySymbols(2, 4, 4, 0, Make.reversed(15, 4, 0, 1))), 18, row);
        Check.fault("19 before 18", small(50, eight, Make.onlySymbols(1, 9, 4, 0, Make.reversed(15, 4))), 19, row);
        Check.fault("18 before 20", small(20, eight, Make.onlySymbols(1, 2, 4, 27, Make.reversed(15, 4))), 18, row);
        Check.fault("18 before bits left over", small(50, eight, Make.onlySymbols(1, 2, 4, 0, Make.reversed(15, 4, 0, 9))), 18, row);
        Check.fault("19 before bits left over", small(50, eight, Make.onlySymbols(1, 9, 2, 0, Make.reversed(0, 2, 0, 9))), 19, row);
        Check.fault("20 before bits left over", small(20, eight, Make.onlySymbols(1, 6, 2, 17, Make.reversed(0, 2, 0, 9))), 20, row);
        Check.fault("20 of the letters that are left before bits left over", small(18, Make.allOf('a', 15), Make.onlySymbols(1, 2, 2, 1, Make.reversed(0, 2, 0, 9))), 20, row);
        byte[] twice = Make.onlySymbols(2, 25, 7, 0, Make.reversed(0, 7, 61, 6, 127, 7, 0, 6));
        Check.fault("18 before 20 of letters", small(191, Make.allOf('a', 189), twice), 18, row);
        Check.fault("18 if the letters are not too many", small(192, Make.allOf('a', 189), twice), 18, row);
        lettersAboveLimit(row);
    }

    /** 192 bytes came out behind the second's LETTERS, one more than the SPAN, which is the LIMIT. */
    private static void lettersAboveLimit(int row) {
        int[][] offsets = {{125, 20}, {190, 20}, {191, 20}, {192, 18}, {193, 18}, {252, 18}};
        for (int[] of : offsets) {
            byte[] twice = Make.onlySymbols(2, 25, 7, 0, Make.reversed(0, 7, 61, 6, of[0] + 3 - 128, 7, 0, 6));
            TabledFrames x = Check.fault("letters above the limit, offset " + of[0], small(191, Make.allOf('a', 189), twice), of[1], row);
            Check.told("letters above the limit", x, 4, 1, 0, 125, 1, 4);
        }
    }
}

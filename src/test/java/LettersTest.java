import java.util.Arrays;

/** Promises 11, 16 and 19 by section 3: letters in four forms, codes, streams, faults 10 to 13. */
public final class LettersTest {
    private static final byte[] NONE = Make.bytes(0);
    /** WEIGHTS 4 3 2 0 1 and 1: words 1, 01, 001, -, 0000, 0001. */
    private static final byte[] CODE = Make.bytes(132, 0x43, 0x20, 0x10);
    private static final String[] WORDS = {"1", "01", "001", "", "0000", "0001"};

    private LettersTest() {
    }

    public static void main(String[] args) {
        plainForms();
        heads();
        codes();
        wrongCodes();
        weightsInTurn();
        mostWeights();
        countsOfWeights();
        longestCode();
        oneStream();
        fourStreams();
        theCodeBefore();
        Check.end();
    }

    private static byte[] words(int... letters) {
        StringBuilder bits = new StringBuilder();
        for (int letter : letters) {
            bits.append(WORDS[letter]);
        }
        return Make.reversedText(bits.toString());
    }

    private static void plainForms() {
        for (int n : new int[] {0, 1, 5, 30, 31, 32, 4095, 4096, 7000}) {
            byte[] letters = new byte[n];
            for (int i = 0; i < n; i++) {
                letters[i] = (byte) (i * 7);
            }
            byte[] same = Make.same(250, n);
            if (n < 32) {
                form("form 0, 2", Make.bytes(n << 3), letters, n);
                form("form 0, 2, one", Make.bytes(1 | n << 3, 250), same, n);
            }
            if (n < 4096) {
                form("form 1", Make.number(4 | n << 4, 2), letters, n);
                form("form 1, one", Make.join(Make.number(5 | n << 4, 2), Make.bytes(250)), same, n);
            }
            form("form 3", Make.number(12 | n << 4, 3), letters, n);
            form("form 3, one", Make.join(Make.number(13 | n << 4, 3), Make.bytes(250)), same, n);
        }
    }

    private static void form(String what, byte[] head, byte[] letters, int n) {
        boolean one = (head[0] & 1) != 0;
        TabledFrames x = Check.fine(what, Make.one(head, one ? new byte[0] : letters, NONE), letters);
        Check.told(what, x, 0, 1, 1, 1, n, 0, n);
        Check.due(what + ": bits", x.bits(0), -3);
        byte[] behind = Make.join(head, one ? new byte[0] : letters);
        Check.fault(what + ", a byte lacks", Make.one(Make.first(behind, behind.length - 1)), 10, 9);
    }

    private static void heads() {
        TabledFrames x = Check.fault("an empty block", Make.one(), 10, 9);
        Check.told("an empty block", x, 0, 1, 1, 0, 0, 0, 0);
        Check.fault("a head alone is all that no letters want", Make.one(Make.bytes(0)), 14, 10);
        Check.fault("the one byte is wanted for no letters too", Make.one(Make.bytes(1)), 10, 9);
        Check.fault("form 1 of one byte", Make.one(Make.bytes(4)), 10, 9);
        Check.fault("form 3 of two", Make.one(Make.bytes(12, 0)), 10, 9);
        int[] bytes = {3, 3, 4, 5};
        for (int form = 0; form < 4; form++) {
            byte[] head = new byte[bytes[form] - 1];
            head[0] = (byte) (2 | form << 2);
            Check.fault("a code's head lacks, form " + form, Make.one(head), 10, 9);
            head[0] = (byte) (3 | form << 2);
            Check.fault("before there is no code, form " + form, Make.one(head), 10, 9);
        }
        Check.fault("what follows lacks", Make.one(Make.bytes(0x22, 0x80, 0)), 10, 9);
        byte[] above = Make.join(Make.head(32, 20), Make.packed(true, Make.bytes(1 | 21 << 3, 7, 0)));
        Check.fault("above the limit", above, 10, 9);
        byte[] just = Make.join(Make.head(32, 20), Make.packed(true, Make.bytes(1 | 20 << 3, 7, 0)));
        Check.fine("just the limit", just, Make.same(7, 20));
        byte[] coded = Make.join(Make.head(32, 20), Make.packed(true, Make.coded(2, 21, CODE, words(0)), NONE));
        Check.fault("a code's size above the limit", coded, 10, 9);
        Check.fault("131073", Make.join(Make.head(0, 0x60), Make.packed(true, Make.allOf(1, 131073), NONE)), 10, 9);
        Check.fault("131072", Make.join(Make.head(0, 0x60), Make.packed(true, Make.allOf(1, 131072), NONE)), 7, 6);
    }

    private static void codes() {
        byte[] letters = Make.bytes(5, 4, 2, 1, 0, 0, 1);
        TabledFrames x = Check.fine("a code", Make.one(Make.coded(2, 7, CODE, words(5, 4, 2, 1, 0, 0, 1)), NONE), letters);
        Check.told("a code", x, 0, 1, 1, 1, 7, 0, 7);
        int[] lengths = {1, 2, 3, 0, 4, 4, 0};
        for (int i = 0; i < lengths.length; i++) {
            Check.due("bits(" + i + ")", x.bits(i), lengths[i]);
        }
        Check.due("bits(255)", x.bits(255), 0);
        Check.due("bits(256)", x.bits(256), -2);
        Check.due("bits(-1)", x.bits(-1), -2);
        x = Check.fine("two of a bit", Make.one(Make.coded(2, 3, Make.bytes(128, 0x1F), Make.reversedText("011")), NONE), Make.bytes(0, 1, 1));
        Check.due("bits(1)", x.bits(1), 1);
        // no WEIGHT of 1: words are shorter than n, and that is all
        x = Check.fine("weights from 2 on", Make.one(Make.coded(2, 3, Make.bytes(129, 0x22), Make.reversedText("00011")), NONE), Make.bytes(0, 1, 2));
        Check.due("bits(2)", x.bits(2), 1);
        Check.due("bits(0)", x.bits(0), 2);
        StringBuilder deep = new StringBuilder("00000000001");
        x = Check.fine("eleven bits", Make.one(Make.coded(2, 2, Make.bytes(138, 0xBA, 0x98, 0x76, 0x54, 0x32, 0x10), Make.reversedText(deep + "1")), NONE), Make.bytes(11, 0));
        Check.due("bits(11)", x.bits(11), 11);
        byte[] most = new byte[65];
        most[0] = (byte) 255;
        Arrays.fill(most, 1, 65, (byte) 0x11);
        x = Check.fine("128 weights", Make.one(Make.coded(2, 1, most, Make.reversedText("1")), NONE), Make.bytes(128));
        Check.due("128 weights: bits", x.bits(127), 8);
    }

    private static void wrongCode(String what, byte[] code) {
        TabledFrames x = Check.fault(what, Make.one(Make.coded(2, 1, code), NONE), 11, 12);
        Check.told(what, x, 0, 1, 1, 0, 0, 0, 0);
        Check.due(what + ": bits", x.bits(0), -3);
    }

    private static void wrongCodes() {
        wrongCode("no byte", new byte[0]);
        wrongCode("halves lack", Make.bytes(130, 0x11));
        wrongCode("bytes lack", Make.bytes(3, 0x10, 0x20));
        wrongCode("a sum of 0", Make.bytes(129, 0x00, 1, 1));
        wrongCode("3 lack", Make.bytes(129, 0x31, 1, 1));
        wrongCode("a weight of 12", Make.bytes(128, 0xC0, 1, 1));
        wrongCode("a weight of 15", Make.bytes(128, 0xF0, 1, 1));
        wrongCode("n is 12", Make.bytes(129, 0xBB, 1, 1));
        wrongCode("no counts", Make.bytes(0, 1, 1));
        wrongCode("l is 7", Make.join(Make.bytes(20), Make.counts(7, 64, 64), new byte[17], Make.bytes(1)));
        wrongCode("counts lack", Make.bytes(1, 0x10, 1, 1));
        byte[] counts = Make.counts(5, 16, 16);
        wrongCode("no row", Make.join(Make.bytes(counts.length), counts, Make.bytes(1)));
        wrongCode("no mark", Make.join(Make.bytes(counts.length + 2), counts, Make.bytes(255, 0), Make.bytes(1)));
        byte[] four = Make.counts(5, 0, 31, -1);
        wrongCode("a row of bytes 0", Make.join(Make.bytes(four.length + 3), four, Make.bytes(0, 0, 0), Make.bytes(1)));
        wrongCode("nine bits", Make.join(Make.bytes(counts.length + 2), counts, Make.reversed(0, 9), Make.bytes(1)));
        byte[] all = Make.counts(5, 0, 32);
        wrongCode("weights without end", Make.join(Make.bytes(all.length + 2), all, Make.reversed(0, 10), Make.bytes(1)));
        byte[] good = Make.join(Make.coded(2, 1, CODE, words(0)), NONE);
        TabledFrames x = Check.fault("behind a good one", Make.join(Make.wide(), Make.packed(false, good), Make.packed(true, Make.coded(2, 1, Make.bytes(128, 0)))), 11, 6 + 3 + good.length + 3 + 3);
        Check.due("the good one stays the latest", x.bits(4), 4);
    }

    /** With l = 5 and two symbols of 16 each, a state has 1 bit: places 0, 23, 14, .. are the first symbol's. */
    private static void weightsInTurn() {
        int[] symbols = new int[32];
        int p = 0;
        for (int i = 0; i < 32; i++) {
            symbols[p] = i < 16 ? 0 : 1;
            p = (p + 23) % 32;
        }
        int[] next = {16, 16};
        int[] base = new int[32];
        for (int i = 0; i < 32; i++) {
            base[i] = next[symbols[i]]++ * 2 - 32;
        }
        byte[] counts = Make.counts(5, 16, 16);
        for (int trial = 0; trial < 64; trial++) {
            int now = trial * 11 % 32;
            int other = trial * 5 % 32;
            int n = trial % 9;
            StringBuilder bits = new StringBuilder();
            for (int i = 0; i < n; i++) {
                bits.append((trial * 37 + i * i) / 3 % 2);
            }
            long[] fields = new long[4 + 2 * n];
            fields[0] = now;
            fields[1] = 5;
            fields[2] = other;
            fields[3] = 5;
            int[] weights = new int[n + 2];
            for (int i = 0; i < n; i++) {
                int bit = bits.charAt(i) - '0';
                fields[4 + 2 * i] = bit;
                fields[5 + 2 * i] = 1;
                weights[i] = symbols[now];
                int gone = base[now] + bit;
                now = other;
                other = gone;
            }
            weights[n] = symbols[now];
            weights[n + 1] = symbols[other];
            int sum = Arrays.stream(weights).sum();
            int whole = sum == 0 ? 0 : 2 * Integer.highestOneBit(sum);
            byte[] row = Make.reversed(fields);
            byte[] code = Make.join(Make.bytes(counts.length + row.length), counts, row);
            int lack = whole - sum;
            if (sum == 0 || Integer.bitCount(lack) != 1) {
                Check.fault("weights in turn", Make.one(Make.coded(2, 0, code, Make.bytes(1)), NONE), 11, 12);
                continue;
            }
            TabledFrames x = Check.fine("weights in turn", Make.one(Make.coded(2, 0, code, Make.bytes(1)), NONE), 0);
            int log = Integer.numberOfTrailingZeros(whole);
            for (int i = 0; i < n + 2; i++) {
                Check.due("bits of " + i, x.bits(i), weights[i] == 0 ? 0 : log);
            }
            Check.due("bits of the last", x.bits(n + 2), log - Integer.numberOfTrailingZeros(lack));
        }
    }

    /** A CODE by counts told with l: the symbols of the table are the WEIGHTS, each leads to the one after the next. */
    static byte[] codeInTurn(States table, int... weights) {
        int n = weights.length;
        int[] places = new int[n];
        for (int i = n - 1; i >= 0; i--) {
            places[i] = i >= n - 2 ? table.first(weights[i]) : table.before(weights[i], places[i + 2]);
        }
        long[] fields = new long[2 * n];
        for (int i = 0; i < n; i++) {
            fields[2 * i] = i < 2 ? places[i] : places[i] - table.base[places[i - 2]];
            fields[2 * i + 1] = i < 2 ? table.l : table.bits[places[i - 2]];
        }
        byte[] counts = Make.counts(table.l, table.counts);
        byte[] row = Make.reversed(fields);
        return Make.join(Make.bytes(counts.length + row.length), counts, row);
    }

    private static byte[] coding(byte[] code, String bits) {
        return Make.one(Make.coded(2, 1, code, Make.reversedText(bits)), NONE);
    }

    /** 255 WEIGHTS are fine, with one more there are too many; 127 of them are 1, so that the last one is 1 too. */
    private static void mostWeights() {
        for (int n = 250; n <= 260; n++) {
            int[] weights = new int[n];
            Arrays.fill(weights, 0, 127, 1);
            byte[] frame = coding(codeInTurn(new States(5, 16, 16), weights), "0000000");
            if (n > 255) {
                Check.fault(n + " weights", frame, 11, 12);
            } else {
                TabledFrames x = Check.fine(n + " weights", frame, Make.bytes(0));
                Check.due(n + " weights: bits of the last", x.bits(n), 7);
                Check.due(n + " weights: bits", x.bits(127), 0);
            }
        }
    }

    /** The greatest l is 6, the greatest symbol 255 (a WEIGHT like that is none, but it may have a COUNT). */
    private static void countsOfWeights() {
        int[] weights = {1, 0, 1, 0, 1};
        Check.fine("l is 5", coding(codeInTurn(new States(5, 16, 16), weights), "00"), Make.bytes(0));
        Check.fine("l is 6", coding(codeInTurn(new States(6, 32, 32), weights), "00"), Make.bytes(0));
        Check.fault("l is 7", coding(codeInTurn(new States(7, 64, 64), weights), "00"), 11, 12);
        for (int greatest = 253; greatest <= 258; greatest++) {
            int[] counts = new int[greatest + 1];
            counts[0] = 16;
            counts[1] = 15;
            counts[greatest] = 1;
            byte[] frame = coding(codeInTurn(new States(5, counts), weights), "00");
            if (greatest > 255) {
                Check.fault("a count of " + greatest, frame, 11, 12);
            } else {
                Check.fine("a count of " + greatest, frame, Make.bytes(0));
            }
        }
        int[] high = new int[13];
        high[0] = 16;
        high[1] = 14;
        high[11] = 1;
        high[12] = 1;
        Check.fault("a weight of 12 in turn", coding(codeInTurn(new States(5, high), 12, 0, 1, 0, 1), "00"), 11, 12);
        Check.fine("a weight of 11 in turn", coding(codeInTurn(new States(5, high), 11, 0, 0, 0, 0), "1"), Make.bytes(5));
    }

    /** 127 bytes of a CODE are no halves: WEIGHTS of six bits each, 160 and more, whose sum is 192. */
    private static void longestCode() {
        boolean found = false;
        for (int more = 0; more < 10; more++) {
            int ones = 128 + 2 * more;
            int[] weights = new int[160 + more];
            Arrays.fill(weights, 0, ones, 1);
            Arrays.fill(weights, ones, weights.length, 2);
            byte[] code = codeInTurn(new States(6, 62, 1, 1), weights);
            if (code.length <= 128) {
                found |= code.length == 128;
                TabledFrames x = Check.fine("a code of " + (code.length - 1), coding(code, "00000000"), Make.bytes(0));
                Check.due("bits of a 1", x.bits(ones - 1), 8);
                Check.due("bits of a 2", x.bits(ones), 7);
                Check.due("bits of the last", x.bits(weights.length), 2);
            }
        }
        Check.due("one has 127 bytes", found ? 1 : 0, 1);
    }

    private static void wrongStream(String what, int size, byte[] stream) {
        TabledFrames x = Check.fault(what, Make.one(Make.coded(2, size, CODE, stream), NONE), 13, 16);
        Check.told(what, x, 0, 1, 1, 0, 0, 0, 0);
        Check.due(what + ": the code is told", x.bits(5), 4);
    }

    private static void oneStream() {
        Check.fine("no letters", Make.one(Make.coded(2, 0, CODE, Make.bytes(1)), NONE), 0);
        wrongStream("no byte", 1, new byte[0]);
        wrongStream("no mark", 1, Make.bytes(3, 0));
        wrongStream("a letter more", 2, words(5, 4, 2));
        wrongStream("a letter less", 4, words(5, 4, 2));
        wrongStream("half a word", 2, Make.reversedText("1000"));
        wrongStream("no letters, but bits", 0, Make.bytes(2));
        wrongStream("no letters, no byte", 0, new byte[0]);
        byte[] halves = Make.bytes(128, 0x10);
        Check.fine("eight of a bit", Make.one(Make.coded(2, 8, halves, Make.bytes(0x65, 1)), NONE), Make.bytes(0, 1, 1, 0, 0, 1, 0, 1));
        Check.fault("eight of a bit, but no mark", Make.one(Make.coded(2, 8, halves, Make.bytes(0x65, 0)), NONE), 13, 14);
        Check.fault("eight of a bit, but no mark", Make.one(Make.coded(2, 16, halves, Make.bytes(0x65, 0)), NONE), 13, 14);
        wrongStream("bytes left over", 1, Make.join(Make.bytes(0), words(0)));
        int[] many = new int[1000];
        byte[] letters = new byte[1000];
        for (int i = 0; i < 1000; i++) {
            many[i] = i * i % 7 % 3;
            letters[i] = (byte) many[i];
        }
        Check.fine("1000 by one", Make.one(Make.coded(2, 1000, CODE, words(many)), NONE), letters);
        byte[] zeros = Make.coded(2, 1023, CODE, words(new int[1023]));
        Check.fine("1023 by one", Make.one(zeros, NONE), new byte[1023]);
    }

    private static byte[] streams(byte[] a, byte[] b, byte[] c, byte[] d) {
        return Make.join(Make.number(a.length, 2), Make.number(b.length, 2), Make.number(c.length, 2), a, b, c, d);
    }

    private static void fourStreams() {
        byte[] four = streams(words(0, 1), words(2, 4), words(5, 5), words(1));
        Check.fine("7 by four", Make.one(Make.codedFour(2, 7, CODE, four), NONE), Make.bytes(0, 1, 2, 4, 5, 5, 1));
        for (int form = 2; form < 4; form++) {
            byte[] follow = Make.join(CODE, four);
            int width = form == 2 ? 14 : 18;
            byte[] head = Make.number(2 | form << 2 | 7 << 4 | (long) follow.length << (4 + width), form + 2);
            Check.fine("form " + form, Make.one(head, follow, NONE), Make.bytes(0, 1, 2, 4, 5, 5, 1));
        }
        byte[] six = streams(words(0, 1), words(2, 4), words(5, 5), Make.bytes(1));
        Check.fine("6 by four", Make.one(Make.codedFour(2, 6, CODE, six), NONE), Make.bytes(0, 1, 2, 4, 5, 5));
        byte[] none = streams(Make.bytes(1), Make.bytes(1), Make.bytes(1), Make.bytes(1));
        Check.fine("0 by four", Make.one(Make.codedFour(2, 0, CODE, none), NONE), 0);
        wrongFour("5 by four are below 0", 5, six);
        wrongFour("2 by four are below 0", 2, streams(words(0), words(0), words(0), Make.bytes(1)));
        wrongFour("no sizes", 7, Make.first(four, 5));
        wrongFour("sizes alone", 7, Make.first(four, 6));
        byte[] wrong = four.clone();
        wrong[4] = 99;
        wrongFour("the third's size does not fit", 7, wrong);
        wrong = four.clone();
        wrong[1] = 1;
        wrongFour("the first's size does not fit", 7, wrong);
        wrongFour("no byte of the last", 7, Make.first(four, four.length - 1));
        wrongFour("no byte of the second", 7, streams(words(0, 1), new byte[0], words(5, 5), words(1)));
        wrongFour("the second has one more", 7, streams(words(0, 1), words(2, 4, 0), words(5, 5), words(1)));
        wrongFour("the third has one less", 7, streams(words(0, 1), words(2, 4), words(5), words(1)));
        wrongFour("the last has one less", 7, streams(words(0, 1), words(2, 4), words(5, 4), Make.bytes(1)));
    }

    private static void wrongFour(String what, int size, byte[] streams) {
        Check.fault(what, Make.one(Make.codedFour(2, size, CODE, streams), NONE), 13, 16);
    }

    private static void theCodeBefore() {
        byte[] first = Make.packed(false, Make.coded(2, 2, CODE, words(5, 2)), NONE);
        byte[] plain = Make.packed(false, Make.plain(Make.bytes(9)), NONE);
        byte[] before = Make.packed(true, Make.coded(3, 3, words(4, 0, 1)), NONE);
        TabledFrames x = Check.fine("the code before", Make.join(Make.wide(), first, plain, before), Make.bytes(5, 2, 9, 4, 0, 1));
        Check.told("the code before", x, 0, 1, 3, 3, 6, 0, 6);
        Check.fault("no code before", Make.one(Make.coded(3, 3, words(4, 0, 1)), NONE), 12, 9);
        Check.fault("none, but what follows lacks", Make.one(Make.first(Make.coded(3, 3, words(4, 0, 1)), 3)), 10, 9);
        byte[] frame = Make.join(Make.wide(), first, before);
        x = Check.fault("none in this frame", Make.join(frame, Make.wide(), before), 12, frame.length + 9);
        Check.due("none in the latest frame", x.bits(0), -3);
        x = Check.fine("another code", Make.join(Make.wide(), first, Make.packed(true, Make.coded(2, 2, Make.bytes(128, 0x10), Make.reversedText("01")), NONE)), Make.bytes(5, 2, 0, 1));
        for (int i = 0; i < 6; i++) {
            Check.due("bits in another code", x.bits(i), i < 2 ? 1 : 0);
        }
        Check.fine("four by the code before", Make.join(Make.wide(), first, Make.packed(true,
            Make.codedFour(3, 4, streams(words(0), words(1), words(2), words(4))), NONE)), Make.bytes(5, 2, 0, 1, 2, 4));
        int at = 6 + first.length + 3;
        x = Check.fault("a wrong stream by it", Make.join(Make.wide(), first, Make.packed(true, Make.coded(3, 1, words(4, 0)), NONE)), 13, at + 3);
        Check.told("a wrong stream by it", x, 0, 1, 2, 1, 2, 0, 2);
        Check.fault("a wrong mark behind the frame", Make.join(frame, Make.bytes(1, 2, 3, 4)), 2, frame.length);
        x = Check.fine("passed over behind the frame", Make.join(frame, Make.number(407710288L, 4), Make.number(0, 4)), 5);
        Check.due("the code is that of the latest frame", x.bits(0), 1);
        x.feed(0, 0);
        x.feed(5, 1);
        Check.fault("no frame", x, 5, 1, 1);
        Check.due("no code any more", x.bits(0), -3);
    }
}

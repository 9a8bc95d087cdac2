import java.util.ArrayList;
import java.util.Arrays;
import java.util.List;
import java.util.Map;
import java.util.TreeMap;

/** Section 3: letters in their forms, codes and streams, faults 10 to 13, each at its edges. */
final class LettersEdges {
    private static final byte[] NONE = Make.bytes(0);
    /** WEIGHTS 4 3 2 0 1 and 1: words 1, 01, 001, -, 0000, 0001. */
    private static final byte[] CODE = Make.bytes(132, 0x43, 0x20, 0x10);
    private static final String[] WORDS = {"1", "01", "001", "", "0000", "0001"};
    /** Two symbols of one bit each. */
    private static final byte[] HALVES = Make.bytes(128, 0x10);
    private static final int[] CODED_HEAD = {3, 3, 4, 5};
    private static final int[] WIDTH = {10, 10, 14, 18};

    private LettersEdges() {
    }

    static void all() {
        plainSizes();
        oneByteSizes();
        soManyBytes();
        codedSizes();
        oneStreamOrFour();
        halves();
        halvesInBytes();
        mostBytesOfACode();
        bytesOfACode();
        inTurn();
        sums();
        words();
        wrongWeights();
        tooManyWeights();
        lackingInACode();
        streams();
        fourSizes();
        marks();
        justSoMany();
        headsLack();
        aboveTheLimit();
        theCodeBefore();
        places();
    }

    private static byte[] letters(int n) {
        byte[] all = new byte[n];
        for (int i = 0; i < n; i++) {
            all[i] = (byte) (i * 11 + n);
        }
        return all;
    }

    /** LETTERS of kind 2 or 3 in any form. */
    private static byte[] coded(int kind, int form, long size, byte[]... follow) {
        byte[] all = Make.join(follow);
        return Make.join(Make.number(kind | form << 2 | size << 4 | (long) all.length << (4 + WIDTH[form]), CODED_HEAD[form]), all);
    }

    private static byte[] words(int... letters) {
        StringBuilder bits = new StringBuilder();
        for (int letter : letters) {
            bits.append(WORDS[letter]);
        }
        return Make.reversedText(bits.toString());
    }

    private static byte[] four(byte[]... streams) {
        return Make.join(Make.number(streams[0].length, 2), Make.number(streams[1].length, 2), Make.number(streams[2].length, 2), Make.join(streams));
    }

    private static void plainSizes() {
        Check.says("Kinds 0 (plain), 1 (one byte): form 0, 2: the size is the byte / 8; 1: N2 / 16; 3: N3 / 16.");
        for (int n = 0; n < 32; n++) {
            Check.fine(n + " by a byte", Make.one(Make.bytes(n << 3), letters(n), NONE), letters(n));
        }
        for (int n : new int[] {0, 1, 15, 16, 31, 32, 255, 256, 4095}) {
            Check.fine(n + " by N2", Make.one(Make.number(4 | n << 4, 2), letters(n), NONE), letters(n));
        }
        for (int n : new int[] {0, 1, 31, 32, 4095, 4096, 7900}) {
            Check.fine(n + " by N3", Make.one(Make.number(12 | n << 4, 3), letters(n), NONE), letters(n));
        }
    }

    private static void oneByteSizes() {
        Check.says("1 (one byte): form 0, 2: the size is the byte / 8; 1: N2 / 16; 3: N3 / 16.");
        for (int n = 0; n < 32; n++) {
            Check.fine(n + " by a byte", Make.one(Make.bytes(1 | n << 3, 200), NONE), Make.same(200, n));
        }
        for (int n : new int[] {0, 1, 31, 32, 255, 256, 4095}) {
            Check.fine(n + " by N2", Make.one(Make.number(5 | n << 4, 2), Make.bytes(200), NONE), Make.same(200, n));
        }
        for (int n : new int[] {0, 1, 31, 32, 4095, 4096, 65535, 65536, 131072, 131073, (1 << 20) - 1}) {
            byte[] frame = Make.one(Make.number(13 | n << 4, 3), Make.bytes(200), NONE);
            if (n > 131072) {
                Check.fault(n + " by N3", frame, 10, 9);
            } else if (n > 8000) {
                Check.due(n + " letters", Check.fault(n + " by N3", frame, 7, 6).told(3), n);
            } else {
                Check.fine(n + " by N3", frame, Make.same(200, n));
            }
        }
    }

    private static void soManyBytes() {
        Check.says("Then so many bytes; or one, which is all of them.");
        Check.fine("none, and none", Make.one(Make.bytes(0), NONE), 0);
        Check.fine("none, and one", Make.one(Make.bytes(1, 77), NONE), 0);
        Check.fault("none, and the one lacks", Make.one(Make.bytes(1)), 10, 9);
        Check.fault("none, and the one is the section's", Make.one(Make.bytes(1, 0)), 14, 11);
        Check.fine("one", Make.one(Make.bytes(8, 77), NONE), Make.bytes(77));
        Check.fine("one that is all", Make.one(Make.bytes(9, 77), NONE), Make.bytes(77));
        Check.fault("two, and one lacks", Make.one(Make.bytes(16, 77)), 10, 9);
        Check.fault("two, and one is the section's", Make.one(Make.bytes(16, 77, 0)), 14, 12);
    }

    private static String zeros(int n) {
        return "0".repeat(n);
    }

    private static void codedSizes() {
        Check.says("a number of 3, 3, 4, 5 bytes, of which, behind four bits, two numbers of 10, 10, 14, 18 bits: the size, and how many bytes follow.");
        int[][] sizes = {{0, 1}, {0, 1023}, {1, 1023}, {2, 1023}, {2, 1024}, {2, 8000}, {2, 8001}, {2, 16383}, {3, 1023}, {3, 16383}, {3, 16384}, {3, 60000}};
        for (int[] of : sizes) {
            int n = of[1];
            int each = (n + 3) / 4;
            byte[] streams = of[0] == 0 ? Make.reversedText(zeros(n))
                : four(Make.reversedText(zeros(each)), Make.reversedText(zeros(each)), Make.reversedText(zeros(each)), Make.reversedText(zeros(n - 3 * each)));
            byte[] frame = Make.one(coded(2, of[0], n, HALVES, streams), NONE);
            if (n <= 8000) {
                Check.fine(n + " by form " + of[0], frame, new byte[n]);
            } else {
                Check.due(n + " letters", Check.fault(n + " by form " + of[0], frame, 7, 6).told(3), n);
            }
        }
        byte[] most = Make.one(Make.number(2 | 12L | ((1L << 18) - 1) << 4 | 2L << 22, 5), HALVES, NONE);
        Check.fault("2^18 less 1 by form 3", most, 10, 9);
        byte[] far = Make.one(Make.number(2 | 12L | 1L << 4 | ((1L << 18) - 1) << 22, 5), HALVES, NONE);
        Check.fault("2^18 less 1 follow", far, 10, 9);
        int[] follow = {1023, 1023, 2500, 7000};
        for (int form = 0; form < 4; form++) {
            byte[] wide = Make.one(coded(2, form, 1, HALVES, new byte[follow[form] - 2]), NONE);
            Check.fault(follow[form] + " follow in form " + form, wide, 13, 9 + CODED_HEAD[form] + 2);
        }
    }

    private static void oneStreamOrFour() {
        Check.says("form 0: one STREAM; others: four;");
        byte[] one = words(0, 1, 2, 4, 5, 5, 1);
        byte[] four = four(words(0, 1), words(2, 4), words(5, 5), words(1));
        byte[] out = Make.bytes(0, 1, 2, 4, 5, 5, 1);
        for (int form = 0; form < 4; form++) {
            Check.fine("form " + form, Make.one(coded(2, form, 7, CODE, form == 0 ? one : four), NONE), out);
            Check.fault("the other in form " + form, Make.one(coded(2, form, 7, CODE, form == 0 ? four : one), NONE), 13, 9 + CODED_HEAD[form] + 4);
            byte[] first = Make.packed(false, coded(2, 0, 0, CODE, Make.bytes(1)), NONE);
            Check.fine("form " + form + " of kind 3", Make.join(Make.wide(), first, Make.packed(true, coded(3, form, 7, form == 0 ? one : four), NONE)), out);
        }
    }

    private static void halves() {
        Check.says("b above 127: b - 127 WEIGHTS, four bits each, two in a byte, the higher half first.");
        for (int n = 1; n <= 128; n++) {
            byte[] code = new byte[1 + (n + 1) / 2];
            code[0] = (byte) (127 + n);
            Arrays.fill(code, 1, code.length, (byte) 0);
            code[1 + (n - 1) / 2] |= (byte) ((n - 1) % 2 == 0 ? 0x10 : 1);
            TabledFrames x = Check.fine(n + " weights", Make.one(coded(2, 0, 2, code, Make.reversedText("01")), NONE), Make.bytes(n - 1, n));
            for (int s = 0; s < 256; s++) {
                Check.due(n + " weights: bits of " + s, x.bits(s), s == n - 1 || s == n ? 1 : 0);
            }
        }
        TabledFrames x = Check.fine("the higher first", Make.one(coded(2, 0, 0, Make.bytes(129, 0x21), Make.bytes(1)), NONE), 0);
        Check.due("the first has 1 bit", x.bits(0), 1);
        Check.due("the second has 2", x.bits(1), 2);
        Check.due("the third has 2", x.bits(2), 2);
        Check.fine("a half that is left counts nothing", Make.one(coded(2, 0, 1, Make.bytes(128, 0x1F), Make.reversedText("1")), NONE), Make.bytes(1));
    }

    private static void halvesInBytes() {
        Check.says("bytes, bits that are not there;");
        for (int n = 1; n <= 128; n++) {
            byte[] code = new byte[1 + (n + 1) / 2];
            Arrays.fill(code, (byte) 0x11);
            code[0] = (byte) (127 + n);
            for (int cut = 0; cut < code.length; cut += 1 + cut / 9) {
                Check.fault(n + " weights in " + cut + " bytes", Make.one(coded(2, 0, 1, Make.first(code, cut)), Make.same(0x11, 70)), 11, 12);
            }
            Check.fault(n + " weights in a byte less", Make.one(coded(2, 0, 1, Make.first(code, code.length - 1)), Make.same(0x11, 70)), 11, 12);
        }
    }

    /** WEIGHTS of six bits each, so many of 1 and of 2 that their sum is 192; one such CODE has 127 bytes. */
    private static void mostBytesOfACode() {
        Check.says("b above 127: b - 127 WEIGHTS");
        boolean found = false;
        for (int more = 0; more < 10; more++) {
            int ones = 128 + 2 * more;
            int[] weights = new int[160 + more];
            Arrays.fill(weights, 0, ones, 1);
            Arrays.fill(weights, ones, weights.length, 2);
            byte[] code = LettersTest.codeInTurn(new States(6, 62, 1, 1), weights);
            if (code.length == 128) {
                found = true;
                compare("b is 127", code, lengthsOf(listOf(weights)));
                compare("b is 127, and a byte lacks", Make.first(code, 127), null);
            }
        }
        Check.due("one has 127 bytes", found ? 1 : 0, 1);
    }

    /** The WEIGHTS by a row of the two states and bits behind them; null if they have no end. */
    private static List<Integer> weightsOf(States table, int first, int second, String bits) {
        List<Integer> weights = new ArrayList<>();
        int[] states = {first, second};
        int used = 0;
        for (int turn = 0; weights.size() < 300; turn = 1 - turn) {
            int state = states[turn];
            weights.add(table.symbol[state]);
            int n = table.bits[state];
            if (used + n > bits.length()) {
                weights.add(table.symbol[states[1 - turn]]);
                return weights;
            }
            states[turn] = table.base[state] + Integer.parseInt("0" + bits.substring(used, used + n), 2);
            used += n;
        }
        return null;
    }

    /** What bits() tells by WEIGHTS, the last one's symbol behind them; null for FAULT 11. */
    private static int[] lengthsOf(List<Integer> weights) {
        int sum = 0;
        for (int w : weights == null ? new ArrayList<Integer>() : weights) {
            sum += w == 0 ? 0 : w > 11 ? 4096 : 1 << (w - 1);
        }
        if (sum == 0 || sum > 2047 || weights.size() > 255) {
            return null;
        }
        int n = Model.log(sum) + 1;
        int lack = (1 << n) - sum;
        if (Integer.bitCount(lack) != 1) {
            return null;
        }
        int[] lengths = new int[256];
        for (int s = 0; s < weights.size(); s++) {
            lengths[s] = weights.get(s) == 0 ? 0 : n + 1 - weights.get(s);
        }
        lengths[weights.size()] = n - Model.log(lack);
        return lengths;
    }

    private static void compare(String what, byte[] code, int[] lengths) {
        byte[] frame = Make.one(coded(2, 0, 0, code, Make.bytes(1)), NONE);
        if (lengths == null) {
            Check.due(what + ": no code", Check.fault(what, frame, 11, 12).bits(0), -3);
            return;
        }
        TabledFrames x = Check.fine(what, frame, 0);
        for (int s = 0; s < 256; s++) {
            Check.due(what + ": bits of " + s, x.bits(s), lengths[s]);
        }
    }

    private static byte[] codeBy(States table, int first, int second, String bits) {
        StringBuilder all = new StringBuilder();
        for (int state : new int[] {first, second}) {
            for (int i = table.l - 1; i >= 0; i--) {
                all.append(state >> i & 1);
            }
        }
        byte[] told = Make.join(Make.counts(table.l, table.counts), Make.reversedText(all + bits));
        return Make.join(Make.bytes(told.length), told);
    }

    private static void bytesOfACode() {
        Check.says("Else b bytes, COUNTS that are told (greatest symbol 255, l 6 at most), then a REVERSED ROW: two STATES told;");
        States table = new States(5, 16, 16);
        byte[] code = codeBy(table, table.first(0), table.first(1), "");
        compare("two states and nothing else", code, lengthsOf(List.of(0, 1)));
        for (int n = 0; n < code.length; n++) {
            byte[] cut = Make.first(code, n);
            compare("b is right, but it has " + n + " bytes", cut, null);
            if (n > 0) {
                cut[0] = (byte) (n - 1);
                compare("b is " + (n - 1), cut, null);
            }
        }
        byte[] counts = Make.counts(5, 16, 16);
        for (int bits = 0; bits < 13; bits++) {
            byte[] row = Make.reversed(0, bits);
            byte[] all = Make.join(Make.bytes(counts.length + row.length), counts, row);
            String more = bits < 10 ? "" : zeros(bits - 10);
            compare(bits + " bits of states", all, bits < 10 ? null : lengthsOf(weightsOf(table, 0, 0, more)));
        }
        for (int l = 5; l <= 9; l++) {
            States wide = new States(l, 1 << l - 1, 1 << l - 1);
            compare("l is " + l, codeBy(wide, wide.first(1), wide.first(1), ""), l > 6 ? null : lengthsOf(List.of(1, 1)));
        }
        for (int greatest = 254; greatest <= 257; greatest++) {
            int[] with = new int[greatest + 1];
            with[0] = 16;
            with[1] = 15;
            with[greatest] = 1;
            States wide = new States(5, with);
            compare("greatest " + greatest, codeBy(wide, wide.first(1), wide.first(1), ""), greatest > 255 ? null : lengthsOf(List.of(1, 1)));
        }
    }

    /** Every pair of states in tables where a state has no bits, one or all of them, with no bits behind and with some. */
    private static void inTurn() {
        Check.says("then the first's symbol is a WEIGHT and it goes on, then the second's, and so on in turn; when one cannot go on (bits are lacking), the other's symbol is the last WEIGHT.");
        States[] tables = {new States(5, 16, 16), new States(5, 1, 31), new States(5, 31, 1), new States(5, 20, 8, -1, 3), new States(5, -1, -1, 30)};
        String[] behind = {"", "0", "1", "01", "110", "0000", "1111", "00000", "10101"};
        for (States table : tables) {
            for (int first = 0; first < 32; first++) {
                for (int second = 0; second < 32; second++) {
                    String bits = behind[(first * 7 + second * 3) % behind.length];
                    List<Integer> weights = weightsOf(table, first, second, bits);
                    compare("states " + first + " and " + second + " and " + bits, codeBy(table, first, second, bits), lengthsOf(weights));
                }
            }
        }
    }

    /** Each s from 0 to 2047, of WEIGHTS that are all different. */
    private static void sums() {
        Check.says("let s be the sum, not 0, and n = LOG(s) + 1; what lacks to 2^n is a power of two, for which the next symbol's WEIGHT stands.");
        Check.says("A symbol with w has n + 1 - w bits;");
        for (int s = 0; s < 2048; s++) {
            int[] weights = new int[11];
            List<Integer> list = new ArrayList<>();
            for (int w = 1; w <= 11; w++) {
                weights[w - 1] = (s >> w - 1 & 1) == 1 ? w : 0;
                list.add(weights[w - 1]);
            }
            compare("s is " + s, halved(weights), lengthsOf(list));
        }
        compare("s is 2048, n is 12", halved(11, 11), null);
        compare("s is 2049", halved(11, 11, 1), null);
        compare("s is 1024, n is 11", halved(11), lengthsOf(List.of(11)));
        compare("s is 1024 by two", halved(10, 10), lengthsOf(List.of(10, 10)));
        int[] many = new int[128];
        Arrays.fill(many, 5);
        compare("s is 2048 by many", halved(many), null);
        many[127] = 4;
        compare("s is 2040 by many", halved(many), lengthsOf(listOf(many)));
        many[0] = 11;
        compare("s is above 2048 by many", halved(many), null);
    }

    private static List<Integer> listOf(int... values) {
        List<Integer> list = new ArrayList<>();
        for (int v : values) {
            list.add(v);
        }
        return list;
    }

    private static byte[] halved(int... weights) {
        byte[] code = new byte[1 + (weights.length + 1) / 2];
        code[0] = (byte) (127 + weights.length);
        for (int i = 0; i < weights.length; i++) {
            code[1 + i / 2] |= (byte) (weights[i] << (i % 2 == 0 ? 4 : 0));
        }
        return code;
    }

    private static void words() {
        Check.says("words: in the order of WEIGHTS (from 1 on), of the same by number, the first has 0s, each next one is that before plus 1, then the lowest bits cut off by which it is shorter.");
        int[][] codes = {{1}, {2, 1}, {1, 2}, {1, 1, 2}, {4, 3, 2, 0, 1}, {1, 0, 2, 3, 4}, {2, 2, 2}, {3, 1, 1, 2}, {11, 10, 9, 8, 7, 6, 5, 4, 3, 2, 1},
            {1, 2, 3, 4, 5, 6, 7, 8, 9, 10, 11}, {1, 1, 1, 1, 1, 1, 1}, {3, 0, 0, 3, 1, 1, 2}};
        for (int[] weights : codes) {
            Map<String, Integer> words = new TreeMap<>(Judge.words(lengthsOf(listOf(weights))));
            StringBuilder bits = new StringBuilder();
            byte[] out = new byte[words.size()];
            int n = 0;
            for (Map.Entry<String, Integer> word : words.entrySet()) {
                bits.append(word.getKey());
                out[n++] = word.getValue().byteValue();
            }
            Check.fine("words of " + Arrays.toString(weights), Make.one(coded(2, 0, n, halved(weights), Make.reversedText(bits.toString())), NONE), out);
        }
        Check.fine("by hand", Make.one(coded(2, 0, 5, CODE, Make.reversedText("1" + "01" + "001" + "0000" + "0001")), NONE), Make.bytes(0, 1, 2, 4, 5));
        Check.fine("eleven bits by hand", Make.one(coded(2, 0, 3, halved(11, 10, 9, 8, 7, 6, 5, 4, 3, 2, 1), Make.reversedText("00000000000" + "00000000001" + "1")), NONE), Make.bytes(10, 11, 0));
    }

    private static void wrongWeights() {
        Check.says("FAULT 11: n above 11; a WEIGHT above 11;");
        for (int w = 0; w < 16; w++) {
            compare("a weight of " + w, halved(w), w == 0 || w > 11 ? null : lengthsOf(List.of(w)));
            compare("a second weight of " + w, halved(1, w), lengthsOf(List.of(1, w)));
        }
        for (int w : new int[] {10, 11, 12, 13, 255}) {
            int[] counts = new int[w + 1];
            counts[0] = 16;
            counts[w] = 16;
            States table = new States(5, counts);
            compare("a weight of " + w + " in turn", codeBy(table, table.first(w), table.first(0), ""), w > 11 ? null : lengthsOf(List.of(w, 0)));
        }
        Check.says("s is 0, what lacks no power of two;");
        compare("0", halved(0), null);
        compare("0 and 0", halved(0, 0), null);
        compare("many of 0", halved(new int[128]), null);
        compare("3 lack", halved(3, 1), null);
        compare("2 lack", halved(3, 2), lengthsOf(List.of(3, 2)));
        compare("1 lacks", halved(3, 2, 1), lengthsOf(List.of(3, 2, 1)));
        compare("7 lack", halved(4, 1), null);
        compare("1023 lack", halved(11, 1), null);
    }

    /** Of 127 of 1, so that the last is 1 too, and zeros. */
    private static void tooManyWeights() {
        Check.says("more than 255 WEIGHTS (besides the last);");
        States table = new States(5, 16, 16);
        for (int n = 253; n <= 258; n++) {
            int[] places = new int[n];
            StringBuilder bits = new StringBuilder();
            for (int i = n - 1; i >= 0; i--) {
                int w = i < 127 ? 1 : 0;
                places[i] = i >= n - 2 ? table.first(w) : table.before(w, places[i + 2]);
            }
            for (int i = 2; i < n; i++) {
                bits.append(places[i] - table.base[places[i - 2]]);
            }
            byte[] code = codeBy(table, places[0], places[1], bits.toString());
            int[] lengths = new int[256];
            Arrays.fill(lengths, 0, 127, 7);
            lengths[Math.min(n, 255)] = 7;
            compare(n + " weights", code, n > 255 ? null : lengths);
        }
        States endless = new States(5, 0, 32);
        compare("weights without end", codeBy(endless, 0, 1, ""), null);
    }

    private static void lackingInACode() {
        Check.says("bytes, bits that are not there; the COUNTS are wrong; no MARK.");
        Check.fault("no byte of a code", Make.one(coded(2, 0, 1), Make.same(1, 9)), 11, 12);
        compare("b is 0", Make.bytes(0), null);
        compare("b is 127, and nothing", Make.bytes(127), null);
        byte[] counts = Make.counts(5, 16, 16);
        compare("no row", Make.join(Make.bytes(counts.length), counts), null);
        compare("a row of 0", Make.join(Make.bytes(counts.length + 1), counts, Make.bytes(0)), null);
        compare("a row without a mark", Make.join(Make.bytes(counts.length + 3), counts, Make.bytes(255, 255, 0)), null);
        compare("nine bits", Make.join(Make.bytes(counts.length + 2), counts, Make.reversed(511, 9)), null);
        compare("counts without end", Make.join(Make.bytes(4), Make.bytes(0x10, 0xFE, 0xFF, 0xFF)), null);
        byte[] good = codeBy(new States(5, 16, 16), 3, 3, "");
        byte[] wrong = good.clone();
        wrong[1] |= 2;
        compare("l is 7", wrong, null);
        TabledFrames x = Check.fine("a good one", Make.one(coded(2, 0, 0, good, Make.bytes(1)), NONE), 0);
        byte[] nine = Make.join(Make.bytes(counts.length + 2), counts, Make.reversed(511, 9));
        Check.load(x, Make.one(coded(2, 0, 0, nine, Make.bytes(1)), NONE));
        Check.fault("nine bits behind a good one", x, 131072, 11, 12);
        Check.load(x, Make.one(coded(2, 0, 0, Make.bytes(counts.length), counts), NONE));
        Check.fault("no row behind a good one", x, 131072, 11, 12);
    }

    private static void streams() {
        Check.says("STREAMS: one is all that is left; of four the first three's sizes (N2 each) come first; each of the first three has (size + 3) / 4 letters, the last one the others.");
        for (int n = 0; n <= 40; n++) {
            int each = (n + 3) / 4;
            byte[] out = new byte[n];
            byte[][] streams = new byte[4][];
            for (int i = 0; i < 4; i++) {
                StringBuilder bits = new StringBuilder();
                int end = i < 3 ? (i + 1) * each : n;
                for (int k = i * each; k < end; k++) {
                    int letter = (k * k + n) % 3;
                    if (k < n) {
                        out[k] = (byte) letter;
                    }
                    bits.append(WORDS[letter]);
                }
                streams[i] = Make.reversedText(bits.toString());
            }
            byte[] frame = Make.one(coded(2, 1, n, CODE, four(streams)), NONE);
            if (n - 3 * each < 0) {
                Check.fault(n + " by four", frame, 13, 16);
            } else {
                Check.fine(n + " by four", frame, out);
            }
        }
        Check.says("fewer than 0 letters,");
        for (int n : new int[] {1, 2, 5}) {
            byte[] one = n == 5 ? words(0, 0) : words(0);
            Check.fault(n + " by four are -2, -1, -1 at last", Make.one(coded(2, 1, n, CODE, four(one, one, one, Make.bytes(1))), NONE), 13, 16);
        }
    }

    private static void fourSizes() {
        Check.says("FAULT 13: sizes that do not fit,");
        byte[][] streams = {words(0, 1), words(2, 4), words(5, 5), words(1)};
        byte[] right = four(streams);
        for (int n = 0; n < 6; n++) {
            Check.fault(n + " bytes of the sizes", Make.one(coded(2, 1, 7, CODE, Make.first(right, n)), NONE), 13, 16);
        }
        Check.fault("the sizes alone", Make.one(coded(2, 1, 0, CODE, new byte[6]), NONE), 13, 16);
        for (int i = 0; i < 3; i++) {
            for (int size : new int[] {0, right.length - 6, right.length - 5, right.length, 255, 256, 65535}) {
                byte[] wrong = right.clone();
                wrong[2 * i] = (byte) size;
                wrong[2 * i + 1] = (byte) (size >> 8);
                Check.fault("the size of " + i + " is " + size, Make.one(coded(2, 1, 7, CODE, wrong), NONE), 13, 16);
            }
        }
        byte[] noLast = Make.join(Make.number(1, 2), Make.number(1, 2), Make.number(1, 2), Make.bytes(1, 1, 1));
        Check.fault("no byte is left for the last", Make.one(coded(2, 1, 0, CODE, noLast), NONE), 13, 16);
        Check.fine("just one is left", Make.one(coded(2, 1, 0, CODE, noLast, Make.bytes(1)), NONE), 0);
        byte[] wide = Make.reversedText("1" + zeros(2400));
        byte[] large = Make.join(Make.number(wide.length, 2), Make.number(1, 2), Make.number(1, 2), wide, Make.bytes(1, 1, 1));
        Check.fault("a size of two bytes, and letters that are too few", Make.one(coded(2, 2, 0, CODE, large), NONE), 13, 17);
        byte[] nine = Make.reversedText(zeros(2400));
        Check.fine("sizes of two bytes", Make.one(coded(2, 2, 7000, HALVES, four(Make.reversedText(zeros(1750)), Make.reversedText(zeros(1750)),
            Make.reversedText(zeros(1750)), Make.reversedText(zeros(1750)))), NONE), new byte[7000]);
        Check.due("as long as that", nine.length, 301);
    }

    private static void marks() {
        Check.says("no MARK (also no byte),");
        Check.fault("no byte", Make.one(coded(2, 0, 0, CODE), NONE), 13, 16);
        Check.fault("a byte of 0", Make.one(coded(2, 0, 0, CODE, Make.bytes(0)), NONE), 13, 16);
        Check.fault("a last byte of 0", Make.one(coded(2, 0, 8, HALVES, Make.bytes(255, 0)), NONE), 13, 14);
        byte[][] streams = {words(0, 1), words(2, 4), words(5, 5), words(1)};
        for (int i = 0; i < 4; i++) {
            byte[][] wrong = streams.clone();
            wrong[i] = new byte[0];
            Check.fault("no byte of " + i, Make.one(coded(2, 1, 7, CODE, four(wrong)), NONE), 13, 16);
            wrong[i] = Make.join(streams[i], Make.bytes(0));
            Check.fault("a last byte of 0 of " + i, Make.one(coded(2, 1, 7, CODE, four(wrong)), NONE), 13, 16);
        }
        Check.says("A REVERSED ROW of bytes: its last byte is not 0; the highest 1 in it is its MARK; bits come from right below the mark down, the highest first, then those of the byte before, and so on;");
        for (int n = 0; n < 25; n++) {
            byte[] out = new byte[n];
            StringBuilder bits = new StringBuilder();
            for (int i = 0; i < n; i++) {
                out[i] = (byte) (i * i / 3 % 2);
                bits.append(out[i]);
            }
            Check.fine(n + " bits below the mark", Make.one(coded(2, 0, n, HALVES, Make.reversedText(bits.toString())), NONE), out);
        }
        Check.fine("by hand", Make.one(coded(2, 0, 10, HALVES, Make.bytes(0x35, 6)), NONE), Make.bytes(1, 0, 0, 0, 1, 1, 0, 1, 0, 1));
    }

    private static void justSoMany() {
        Check.says("a word that is not there, bits left over.");
        for (int n = 0; n < 20; n++) {
            for (int told = Math.max(0, n - 1); told <= n + 1; told++) {
                byte[] frame = Make.one(coded(2, 0, told, HALVES, Make.reversedText(zeros(n))), NONE);
                if (told == n) {
                    Check.fine(n + " words", frame, new byte[n]);
                } else {
                    TabledFrames x = Check.fault(n + " words for " + told + " letters", frame, 13, 14);
                    Check.told("they were not through", x, 2, 0, 0, 0, 0);
                    Check.due("but the code was", x.bits(0), 1);
                }
            }
        }
        for (String half : new String[] {"0", "00", "000"}) {
            Check.fault("half a word", Make.one(coded(2, 0, 1, CODE, Make.reversedText(half)), NONE), 13, 16);
            Check.fault("a word and half a word", Make.one(coded(2, 0, 2, CODE, Make.reversedText("1" + half)), NONE), 13, 16);
            Check.fault("a word and half a word left over", Make.one(coded(2, 0, 1, CODE, Make.reversedText("1" + half)), NONE), 13, 16);
        }
        byte[][] right = {words(0, 1), words(2, 4), words(5, 5), words(1)};
        byte[][] less = {words(0), words(2), words(5), Make.bytes(1)};
        byte[][] more = {words(0, 1, 0), words(2, 4, 0), words(5, 5, 0), words(1, 0)};
        for (int i = 0; i < 4; i++) {
            byte[][] wrong = right.clone();
            wrong[i] = less[i];
            Check.fault("a word less in " + i, Make.one(coded(2, 1, 7, CODE, four(wrong)), NONE), 13, 16);
            wrong[i] = more[i];
            Check.fault("a word more in " + i, Make.one(coded(2, 1, 7, CODE, four(wrong)), NONE), 13, 16);
        }
    }

    private static void headsLack() {
        Check.says("FAULT 10: the head, what follows, is not in the block;");
        int[] plainHead = {1, 2, 1, 3};
        for (int kind = 0; kind < 4; kind++) {
            for (int form = 0; form < 4; form++) {
                int bytes = kind < 2 ? plainHead[form] : CODED_HEAD[form];
                byte[] head = new byte[bytes];
                head[0] = (byte) (kind | form << 2);
                for (int n = 0; n < bytes; n++) {
                    Check.fault("kind " + kind + ", form " + form + ", " + n + " bytes", Make.one(Make.first(head, n)), 10, 9);
                    byte[] more = Make.join(Make.wide(), Make.packed(false, Make.first(head, n)), Make.block(true, 0, 9, new byte[9]));
                    Check.fault("bytes behind the block are not in it", more, 10, 9);
                }
            }
        }
        for (int form = 0; form < 4; form++) {
            byte[] whole = coded(2, form, 7, CODE, form == 0 ? words(0, 1, 2, 4, 5, 5, 1) : four(words(0, 1), words(2, 4), words(5, 5), words(1)));
            for (int n = CODED_HEAD[form]; n < whole.length; n++) {
                Check.fault("form " + form + ", what follows is cut to " + n, Make.one(Make.first(whole, n)), 10, 9);
            }
            Check.fault("all is there, but no section", Make.one(whole), 14, 9 + whole.length);
        }
        for (byte[] head : new byte[][] {Make.bytes(0), Make.bytes(4, 0), Make.bytes(12, 0, 0)}) {
            Check.fault("the head is all that no letters want", Make.one(head), 14, 9 + head.length);
        }
        for (int n = 0; n < 5; n++) {
            Check.fault("plain ones cut to " + n, Make.one(Make.bytes(5 << 3), new byte[n]), 10, 9);
        }
    }

    private static void aboveTheLimit() {
        Check.says("the size is above LIMIT.");
        int[] forms = {0, 1, 3};
        for (int form : forms) {
            for (int n = 19; n <= 21; n++) {
                byte[] head = form == 0 ? Make.bytes(1 | n << 3) : Make.number(1 | form << 2 | n << 4, form == 1 ? 2 : 3);
                byte[] frame = Make.join(Make.head(32, 20), Make.packed(true, head, Make.bytes('l'), NONE));
                int fault = n == 19 ? 8 : n == 21 ? 10 : 0;
                Check.due(n + " of 20 by form " + form, Check.with(frame).open(20), fault == 0 ? 20 : -10 - fault);
            }
        }
        for (int form = 0; form < 4; form++) {
            for (int n = 40; n <= 41; n++) {
                byte[] streams = form == 0 ? Make.reversedText(zeros(n))
                    : four(Make.reversedText(zeros((n + 3) / 4)), Make.reversedText(zeros((n + 3) / 4)), Make.reversedText(zeros((n + 3) / 4)), Make.reversedText(zeros(n - (n + 3) / 4 * 3)));
                byte[] frame = Make.join(Make.head(32, 40), Make.packed(true, coded(2, form, n, HALVES, streams), NONE));
                Check.due(n + " of 40 by a code, form " + form, Check.with(frame).open(40), n > 40 ? -20 : 40);
            }
        }
        Check.fault("131072 is not above 131072", Make.one(Make.allOf('l', 131072), NONE), 7, 6);
        Check.fault("131073 is", Make.one(Make.allOf('l', 131073), NONE), 10, 9);
        byte[] none = Make.join(Make.head(32, 0), Make.block(true, 2, 0));
        Check.fault("a limit of 0", none, 10, 9);
    }

    private static void theCodeBefore() {
        Check.says("12: there was no CODE before (in this FRAME, or the dictionary's).");
        byte[] with = Make.packed(false, coded(2, 0, 2, CODE, words(5, 2)), NONE);
        byte[] by = Make.packed(true, coded(3, 0, 2, words(4, 0)), NONE);
        byte[] plain = Make.packed(false, Make.plain(Make.bytes(9)), NONE);
        Check.fine("before it", Make.join(Make.wide(), with, by), Make.bytes(5, 2, 4, 0));
        Check.fine("before the one before", Make.join(Make.wide(), with, plain, Make.block(false, 0, 1, Make.bytes(7)), by), Make.bytes(5, 2, 9, 7, 4, 0));
        Check.fault("none", Make.join(Make.wide(), by), 12, 9);
        Check.fault("plain letters are none", Make.join(Make.wide(), plain, by), 12, 9 + plain.length);
        byte[] whole = Make.join(Make.wide(), with, by);
        Check.fault("in the frame before", Make.join(whole, Make.wide(), by), 12, whole.length + 9);
        for (int form = 0; form < 4; form++) {
            Check.fault("none, form " + form, Make.one(coded(3, form, 0, Make.bytes(1)), NONE), 12, 9);
            Check.fault("10 comes first, form " + form, Make.one(Make.first(coded(3, form, 0, Make.bytes(1)), CODED_HEAD[form])), 10, 9);
        }
        Check.fault("10 of the size comes first", Make.join(Make.head(32, 9), Make.packed(true, coded(3, 0, 10, Make.bytes(1)), NONE)), 10, 9);
        TabledFrames x = Check.with(DictionaryTest.dictionary(7, new int[] {1, 1, 1}, Make.text("x")));
        Check.due("keep", x.keep(), 7);
        Check.load(x, Make.join(Make.head(1, 0, 7), by));
        Check.due("the dictionary's", x.open(1024), 2);
        Check.cameOut("the dictionary's", x, Make.bytes(4, 0));
        Check.load(x, Make.join(Make.head(0, 0), by));
        Check.fault("the dictionary does not count", x, 1024, 12, 9);
        byte[] other = Make.packed(false, coded(2, 0, 1, HALVES, Make.reversedText("1")), NONE);
        Check.fine("the latest of two", Make.join(Make.wide(), with, other, Make.packed(true, coded(3, 0, 3, Make.reversedText("101")), NONE)), Make.bytes(5, 2, 1, 1, 0, 1));
    }

    private static void places() {
        Check.says("PLACES: 10, 12 the block's first byte, 11 the CODE's, 13 the STREAMS' (with the three sizes).");
        byte[] before = Make.join(Make.wide(), Make.packed(false, coded(2, 0, 2, CODE, words(5, 2)), NONE));
        int at = before.length + 3;
        for (int form = 0; form < 4; form++) {
            int head = CODED_HEAD[form];
            byte[] cut = Make.first(coded(2, form, 0, CODE, Make.bytes(1)), head + 1);
            Check.fault("10", Make.join(before, Make.packed(true, cut)), 10, at);
            Check.fault("11", Make.join(before, Make.packed(true, coded(2, form, 0, Make.bytes(128, 0), Make.bytes(1)), NONE)), 11, at + head);
            Check.fault("13 behind a code", Make.join(before, Make.packed(true, coded(2, form, 1, CODE, Make.bytes(0)), NONE)), 13, at + head + 4);
            Check.fault("13 by the code before", Make.join(before, Make.packed(true, coded(3, form, 1, Make.bytes(0)), NONE)), 13, at + head);
            Check.fault("12", Make.join(Make.wide(), Make.block(false, 0, 5, new byte[5]), Make.packed(true, coded(3, form, 0, Make.bytes(1)), NONE)), 12, 6 + 8 + 3);
        }
        byte[] wrongLast = four(words(0, 1), words(2, 4), words(5, 5), Make.bytes(0));
        Check.fault("13 of the last stream", Make.join(before, Make.packed(true, coded(2, 1, 7, CODE, wrongLast), NONE)), 13, at + 3 + 4);
    }
}

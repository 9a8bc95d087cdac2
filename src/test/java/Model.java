import java.util.ArrayList;
import java.util.Arrays;
import java.util.List;

/** Section 6 once more, slowly, with lists and texts of bits, to compare what pack() answers. */
final class Model {
    static final int[] LETTERS_BASE = new int[36];
    static final int[] LETTERS_BITS = new int[36];
    static final int[] COPIES_BASE = new int[53];
    static final int[] COPIES_BITS = new int[53];
    /** How often the words of a code were at first so deep, so that a test can tell that it has come by all. */
    static final int[] DEPTHS = new int[40];
    /** Of the latest block that was tried: its bytes when packed. */
    static int lastBody;
    /** How often a CODE and its STREAMS had as many bytes as there were letters. */
    static int justAsManyCoded;

    static {
        int[] lettersBits = {1, 1, 1, 1, 2, 2, 3, 3, 4, 6, 7, 8, 9, 10, 11, 12, 13, 14, 15, 16};
        int[] copiesBits = {1, 1, 1, 1, 2, 2, 3, 3, 4, 4, 5, 7, 8, 9, 10, 11, 12, 13, 14, 15, 16};
        ranges(LETTERS_BASE, LETTERS_BITS, 0, 16, lettersBits);
        ranges(COPIES_BASE, COPIES_BITS, 3, 32, copiesBits);
    }

    private Model() {
    }

    /** Each range begins where the one before ends. */
    private static void ranges(int[] base, int[] bits, int first, int plain, int[] widths) {
        for (int s = 0, at = first; s < base.length; s++) {
            bits[s] = s < plain ? 0 : widths[s - plain];
            base[s] = at;
            at += 1 << bits[s];
        }
    }

    static int log(long v) {
        return 63 - Long.numberOfLeadingZeros(v);
    }

    static int symbolOf(int[] base, int length) {
        int s = 0;
        while (s + 1 < base.length && base[s + 1] <= length) {
            s++;
        }
        return s;
    }

    /** One of {LETTERS, COPY, VALUE} as symbols of the three kinds, in table()'s order. */
    static int symbol(int kind, int[] sequence) {
        return kind == 0 ? symbolOf(LETTERS_BASE, sequence[0]) : kind == 1 ? log(sequence[2]) : symbolOf(COPIES_BASE, sequence[1]);
    }

    /** The REVERSED ROW of sequences {LETTERS, COPY, VALUE}. */
    static byte[] sequenceRow(States[] tables, List<int[]> sequences) {
        int n = sequences.size();
        int[][] places = new int[n][3];
        for (int i = n - 1; i >= 0; i--) {
            for (int kind = 0; kind < 3; kind++) {
                int s = symbol(kind, sequences.get(i));
                places[i][kind] = i == n - 1 ? tables[kind].first(s) : tables[kind].before(s, places[i + 1][kind]);
            }
        }
        List<Long> fields = new ArrayList<>();
        for (int kind = 0; kind < 3; kind++) {
            field(fields, places[0][kind], tables[kind].l);
        }
        for (int i = 0; i < n; i++) {
            int[] q = sequences.get(i);
            int value = symbol(1, q);
            field(fields, q[2] - (1 << value), value);
            field(fields, q[1] - COPIES_BASE[symbol(2, q)], COPIES_BITS[symbol(2, q)]);
            field(fields, q[0] - LETTERS_BASE[symbol(0, q)], LETTERS_BITS[symbol(0, q)]);
            for (int kind : new int[] {0, 2, 1}) {
                if (i < n - 1) {
                    int place = places[i][kind];
                    field(fields, places[i + 1][kind] - tables[kind].base[place], tables[kind].bits[place]);
                }
            }
        }
        long[] all = new long[fields.size()];
        for (int i = 0; i < all.length; i++) {
            all[i] = fields.get(i);
        }
        return Make.reversed(all);
    }

    private static void field(List<Long> fields, long v, int n) {
        fields.add(v);
        fields.add((long) n);
    }

    /** A dictionary as far as packing wants it; null for none. */
    record Kept(long number, byte[] content, int[] remembered) {
    }

    static byte[] pack(byte[] row, Kept kept, int level, int marks) {
        boolean one = (marks & 2) != 0;
        long number = kept == null ? 0 : kept.number;
        int d = number == 0 ? 0 : number < 256 ? 1 : number < 65536 ? 2 : 3;
        int span = 0;
        while (1 << (10 + span) < row.length) {
            span++;
        }
        int f = one && row.length >= 256 ? 1 : 0;
        byte[] made = Make.head(f << 6 | (one ? 32 : 0) | ((marks & 1) != 0 ? 4 : 0) | d);
        made = Make.join(made, one ? new byte[0] : Make.bytes(span * 8), Make.number(number, d == 3 ? 4 : d));
        if (one) {
            made = Make.join(made, f == 0 ? Make.number(row.length, 1) : Make.number(row.length - 256, 2));
        }
        int[] remembered = kept == null ? new int[] {1, 4, 8} : kept.remembered.clone();
        byte[] content = kept == null ? new byte[0] : kept.content;
        byte[] all = Make.join(content, row);
        int from = 0;
        do {
            int end = Math.min(row.length, from + 2048);
            made = Make.join(made, block(all, content.length + from, content.length + end, end == row.length, level, remembered));
            from = end;
        } while (from < row.length);
        return (marks & 1) == 0 ? made : Make.join(made, Make.number(RowTest.slowSum(row), 4));
    }

    private static byte[] block(byte[] all, int from, int end, boolean last, int level, int[] remembered) {
        byte[] plain = Arrays.copyOfRange(all, from, end);
        if (level == 0 || plain.length == 0) {
            return Make.block(last, 0, plain.length, plain);
        }
        if (allSame(plain)) {
            return Make.block(last, 1, plain.length, Make.first(plain, 1));
        }
        int[] tried = remembered.clone();
        byte[] packed = packed(all, from, end, level, tried);
        lastBody = packed.length;
        if (packed.length >= plain.length) {
            return Make.block(last, 0, plain.length, plain);
        }
        System.arraycopy(tried, 0, remembered, 0, 3);
        return Make.packed(last, packed);
    }

    private static boolean allSame(byte[] bytes) {
        for (byte b : bytes) {
            if (b != bytes[0]) {
                return false;
            }
        }
        return true;
    }

    private static byte[] packed(byte[] all, int from, int end, int level, int[] remembered) {
        List<int[]> sequences = new ArrayList<>();
        byte[] letters = new byte[0];
        int pending = 0;
        for (int at = from; at < end; ) {
            int[] best = bestCopy(all, at, end);
            if (best == null) {
                letters = Make.join(letters, Make.bytes(all[at]));
                pending++;
                at++;
                continue;
            }
            int value = value(remembered, best[0], pending);
            sequences.add(new int[] {pending, best[1], value});
            pending = 0;
            at += best[1];
        }
        return Make.join(letters(letters, level), sequences(sequences, level));
    }

    /** {OFFSET, COPY}, or null. */
    private static int[] bestCopy(byte[] all, int at, int end) {
        if (at + 4 > end) {
            return null;
        }
        int[] best = null;
        int looked = 0;
        for (int place = at - 1; place >= 0 && looked < 8; place--) {
            int n = 0;
            while (at + n < end && all[place + n] == all[at + n]) {
                n++;
            }
            if (n >= 4) {
                looked++;
                if (best == null || n > best[1]) {
                    best = new int[] {at - place, n};
                }
            }
        }
        return best;
    }

    private static int value(int[] remembered, int offset, int letters) {
        List<Integer> order = new ArrayList<>(List.of(remembered[0], remembered[1], remembered[2]));
        int[] means = letters > 0 ? remembered.clone() : new int[] {remembered[1], remembered[2], remembered[0] - 1};
        int value = offset + 3;
        for (int v = 3; v >= 1; v--) {
            value = means[v - 1] == offset ? v : value;
        }
        int index = value > 3 ? 3 : letters > 0 ? value - 1 : value;
        if (index < 3) {
            order.remove(index);
        }
        order.add(0, offset);
        for (int i = 0; i < 3; i++) {
            remembered[i] = order.get(i);
        }
        return value;
    }

    private static byte[] letters(byte[] letters, int level) {
        int n = letters.length;
        int kind = n > 1 && allSame(letters) ? 1 : 0;
        if (level == 2 && n >= 32 && kind == 0) {
            byte[] coded = codedLetters(letters);
            if (coded != null) {
                return coded;
            }
        }
        byte[] head = n < 32 ? Make.bytes(kind | n << 3) : n < 4096 ? Make.number(kind | 4 | n << 4, 2) : Make.number(kind | 12 | n << 4, 3);
        return Make.join(head, kind == 1 ? Make.first(letters, 1) : letters);
    }

    private static byte[] codedLetters(byte[] letters) {
        int n = letters.length;
        int[] often = new int[128];
        int greatest = 0;
        for (byte b : letters) {
            if (b < 0) {
                return null;
            }
            often[b]++;
            greatest = Math.max(greatest, b);
        }
        String[] words = words(often);
        int longest = 0;
        for (String word : words) {
            longest = Math.max(longest, word.length());
        }
        byte[] code = new byte[1 + (greatest + 1) / 2];
        code[0] = (byte) (127 + greatest);
        for (int i = 0; i < greatest; i++) {
            int weight = words[i].isEmpty() ? 0 : longest + 1 - words[i].length();
            code[1 + i / 2] |= (byte) (weight << (i % 2 == 0 ? 4 : 0));
        }
        boolean single = n < 256;
        byte[] follow = single ? Make.join(code, stream(letters, words)) : Make.join(code, four(letters, words));
        justAsManyCoded += follow.length == n ? 1 : 0;
        if (follow.length >= n) {
            return null;
        }
        int form = single ? 0 : n < 1024 && follow.length < 1024 ? 1 : 2;
        int width = form == 2 ? 14 : 10;
        return Make.join(Make.number(2 | form << 2 | n << 4 | (long) follow.length << (4 + width), form == 2 ? 4 : 3), follow);
    }

    private static byte[] stream(byte[] letters, String[] words) {
        StringBuilder bits = new StringBuilder();
        for (byte b : letters) {
            bits.append(words[b]);
        }
        return Make.reversedText(bits.toString());
    }

    private static byte[] four(byte[] letters, String[] words) {
        int each = (letters.length + 3) / 4;
        byte[] sizes = new byte[0];
        byte[] streams = new byte[0];
        for (int i = 0; i < 4; i++) {
            byte[] stream = stream(Arrays.copyOfRange(letters, i * each, Math.min(letters.length, (i + 1) * each)), words);
            sizes = i < 3 ? Make.join(sizes, Make.number(stream.length, 2)) : sizes;
            streams = Make.join(streams, stream);
        }
        return Make.join(sizes, streams);
    }

    private record Tree(int often, int order, int symbol, Tree a, Tree b) {
    }

    private static String[] words(int[] often) {
        int[] numbers = often.clone();
        int[] depths = depths(numbers);
        DEPTHS[Arrays.stream(depths).max().getAsInt()]++;
        while (Arrays.stream(depths).max().getAsInt() > 11) {
            for (int i = 0; i < numbers.length; i++) {
                numbers[i] = (numbers[i] + 1) / 2;
            }
            depths = depths(numbers);
        }
        String[] words = new String[128];
        Arrays.fill(words, "");
        int word = -1;
        int before = 0;
        for (int length = 20; length >= 1; length--) {
            for (int s = 0; s < 128; s++) {
                if (depths[s] == length) {
                    word = before == 0 ? 0 : (word + 1) >> (before - length);
                    before = length;
                    String bits = Integer.toBinaryString(word | 1 << 20);
                    words[s] = bits.substring(bits.length() - length);
                }
            }
        }
        return words;
    }

    private static int[] depths(int[] often) {
        List<Tree> trees = new ArrayList<>();
        for (int s = 0; s < often.length; s++) {
            if (often[s] > 0) {
                trees.add(new Tree(often[s], s, s, null, null));
            }
        }
        int order = 1000;
        while (trees.size() > 1) {
            trees.sort((p, q) -> p.often != q.often ? Integer.compare(p.often, q.often) : Integer.compare(p.order, q.order));
            Tree a = trees.remove(0);
            Tree b = trees.remove(0);
            trees.add(new Tree(a.often + b.often, order++, -1, a, b));
        }
        int[] depths = new int[often.length];
        descend(trees.get(0), 0, depths);
        return depths;
    }

    private static void descend(Tree tree, int depth, int[] depths) {
        if (tree.a == null) {
            depths[tree.symbol] = depth;
            return;
        }
        descend(tree.a, depth + 1, depths);
        descend(tree.b, depth + 1, depths);
    }

    private static byte[] sequences(List<int[]> sequences, int level) {
        int n = sequences.size();
        byte[] head = n < 128 ? Make.bytes(n) : Make.bytes(128 + n / 256, n % 256);
        if (n == 0) {
            return head;
        }
        States[] tables = new States[3];
        int modes = 0;
        byte[] told = new byte[0];
        for (int kind = 0; kind < 3; kind++) {
            tables[kind] = States.byDefault(kind);
            if (level < 2 || n < 8) {
                continue;
            }
            int[] often = new int[64];
            int greatest = 0;
            for (int[] q : sequences) {
                often[symbol(kind, q)]++;
                greatest = Math.max(greatest, symbol(kind, q));
            }
            if (often[greatest] == n) {
                tables[kind] = States.only(greatest);
                told = Make.join(told, Make.bytes(greatest));
                modes |= 1 << (6 - 2 * kind);
            } else {
                int l = n < 32 ? 5 : n < 128 ? 6 : 7;
                int[] counts = normal(Arrays.copyOf(often, greatest + 1), l, n);
                tables[kind] = new States(l, counts);
                told = Make.join(told, Make.counts(l, counts));
                modes |= 2 << (6 - 2 * kind);
            }
        }
        return Make.join(head, Make.bytes(modes), told, sequenceRow(tables, sequences));
    }

    private static int[] normal(int[] often, int l, int n) {
        int[] counts = new int[often.length];
        for (int s = 0; s < often.length; s++) {
            counts[s] = often[s] == 0 ? 0 : Math.max(1, (int) ((double) often[s] * (1 << l) / n));
        }
        while (Arrays.stream(counts).sum() > 1 << l) {
            counts[greatest(counts)]--;
        }
        int rest = (1 << l) - Arrays.stream(counts).sum();
        counts[greatest(counts)] += rest;
        return counts;
    }

    private static int greatest(int[] counts) {
        int at = 0;
        for (int s = 0; s < counts.length; s++) {
            at = counts[s] > counts[at] ? s : at;
        }
        return at;
    }
}

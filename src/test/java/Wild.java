import java.util.ArrayList;
import java.util.Arrays;
import java.util.List;
import java.util.Random;

/** Frames by chance with every form of every part, most of them right or nearly so. */
final class Wild {
    private static final int[] GREATEST = {35, 31, 52};
    private static final int[] MOST_LOG = {9, 8, 9};

    private final Random random;
    private final Judge.Kept kept;
    /** One in so many parts is wrong; 0 for none. */
    private final int wrong;
    private States[] tables = new States[3];
    private int[] lengths;
    private int came;
    private int reach;
    private int[] remembered = {1, 4, 8};

    Wild(Random random, Judge.Kept kept, int wrong) {
        this.random = random;
        this.kept = kept;
        this.wrong = wrong;
    }

    private boolean slips() {
        return wrong > 0 && random.nextInt(wrong) == 0;
    }

    private int upTo(int most) {
        return random.nextInt(most + 1);
    }

    /** Small ones are as likely as large ones. */
    private int some(int most) {
        return upTo(Math.min(most, (1 << upTo(Model.log(most + 1) + 1)) - 1));
    }

    byte[] frames() {
        byte[] all = new byte[0];
        int n = random.nextInt(4) == 0 ? upTo(4) : 1;
        for (int i = 0; i < n; i++) {
            all = Make.join(all, random.nextInt(8) == 0 ? passedOver() : frame());
        }
        return slips() ? Make.join(all, Make.bytes(new int[1 + upTo(5)])) : all;
    }

    private byte[] passedOver() {
        int n = upTo(9);
        return Make.join(Make.number(407710288L + upTo(slips() ? 20 : 15), 4), Make.number(n + (slips() ? 1 : 0), 4), new byte[n]);
    }

    private byte[] frame() {
        boolean counts = kept != null && random.nextInt(4) > 0;
        long number = counts || kept != null && kept.number == 0 ? kept.number : 0;
        counts = kept != null && kept.number == number;
        tables = counts ? kept.tables.clone() : new States[3];
        lengths = counts ? kept.lengths : null;
        remembered = counts ? kept.remembered.clone() : new int[] {1, 4, 8};
        reach = counts ? kept.content.length : 0;
        came = 0;
        boolean sum = random.nextInt(3) == 0;
        boolean one = random.nextInt(3) == 0;
        byte[] blocks = new byte[0];
        int n = 1 + upTo(random.nextInt(3) == 0 ? 5 : 1);
        for (int i = 0; i < n; i++) {
            blocks = Make.join(blocks, block(i == n - 1));
        }
        Judge judge = Judge.open(Make.join(head(false, false, 0x38, number), blocks), kept, Long.MAX_VALUE);
        int size = judge.answer >= 0 ? judge.answer : upTo(500);
        byte[] made = Make.join(withSize(one, sum, number, size), blocks);
        byte[] out = new byte[Math.min(size, judge.out.size())];
        for (int i = 0; i < out.length; i++) {
            out[i] = judge.out.get(i);
        }
        return sum ? Make.join(made, Make.number(RowTest.slowSum(out) + (slips() ? 1 : 0), 4)) : made;
    }

    private byte[] head(boolean one, boolean sum, int spanByte, long number) {
        int d = number == 0 ? 0 : 3;
        int kind = (one ? 32 : 0) | (sum ? 4 : 0) | d | (random.nextBoolean() ? 16 : 0) | (slips() ? 8 : 0);
        return Make.join(Make.head(kind), one ? new byte[0] : Make.bytes(spanByte), Make.number(number, d == 0 ? 0 : 4));
    }

    private byte[] withSize(boolean one, boolean sum, long number, int size) {
        int told = size + (slips() ? upTo(20) - 10 : 0);
        int span = random.nextInt(3) == 0 ? upTo(255) : upTo(40);
        byte[] head = head(one, sum, span, number + (slips() ? 1 : 0));
        int f = upTo(3);
        if (f == 1 && told < 256 || f == 0 && one && told > 255) {
            f = 2;
        }
        head[4] |= (byte) (f << 6);
        int wide = f == 0 ? one ? 1 : 0 : 1 << f;
        return Make.join(head, Make.number(f == 1 ? told - 256 : told, wide));
    }

    private byte[] block(boolean last) {
        switch (slips() ? 3 : Math.max(0, upTo(9) - 7)) {
            case 1: {
                int n = some(1200);
                came += n;
                return Make.block(last, 0, n, letters(n));
            }
            case 2: {
                int n = some(1200);
                came += n;
                return Make.block(last, 1, n, letters(1));
            }
            case 3:
                return Make.block(last, 3, 2, letters(2));
            default: {
                byte[] content = packed();
                int more = slips() ? upTo(6) - 3 : 0;
                int n = Math.max(0, content.length + more);
                return Make.block(last, 2, n, Arrays.copyOf(content, slips() ? content.length : n));
            }
        }
    }

    private byte[] letters(int n) {
        byte[] all = new byte[n];
        int kinds = some(255) + 1;
        for (int i = 0; i < n; i++) {
            all[i] = (byte) random.nextInt(kinds);
        }
        return all;
    }

    private byte[] packed() {
        int n = random.nextInt(3) == 0 ? some(600) : some(60);
        byte[] told = toldLetters(n);
        return Make.join(told, sequences(n));
    }

    private byte[] toldLetters(int n) {
        int kind = upTo(3);
        if (kind == 3 && lengths == null && !slips()) {
            kind = 2;
        }
        if (kind < 2) {
            int form = n < 32 ? upTo(3) : n < 4096 ? 1 + 2 * upTo(1) : 3;
            long size = n + (slips() ? 1 : 0);
            byte[] head = form % 2 == 0 ? Make.bytes((int) (kind | form << 2 | size << 3)) : Make.number(kind | form << 2 | size << 4, form == 1 ? 2 : 3);
            return Make.join(head, letters(kind == 0 ? n : 1));
        }
        byte[] code = kind == 2 ? code() : new byte[0];
        int form = upTo(3);
        byte[] streams = form == 0 ? stream(n) : four(n);
        byte[] follow = Make.join(code, streams);
        int width = new int[] {10, 10, 14, 18}[form];
        if (n >= 1 << width || follow.length >= 1 << width) {
            form = 2;
            width = 14;
            streams = four(n);
            follow = Make.join(code, streams);
        }
        int size = slips() ? Math.max(0, n + upTo(8) - 4) : n;
        return Make.join(Make.number(kind | form << 2 | (long) size << 4 | (long) follow.length << 4 + width, new int[] {3, 3, 4, 5}[form]), follow);
    }

    private byte[] four(int n) {
        int each = (n + 3) / 4;
        byte[] sizes = new byte[0];
        byte[] all = new byte[0];
        for (int i = 0; i < 4; i++) {
            byte[] stream = stream(i < 3 ? each : Math.max(0, n - 3 * each));
            sizes = i < 3 ? Make.join(sizes, Make.number(stream.length + (slips() ? upTo(2) - 1 : 0), 2)) : sizes;
            all = Make.join(all, stream);
        }
        return Make.join(sizes, all);
    }

    /** A STREAM of n letters of the latest CODE. */
    private byte[] stream(int n) {
        List<String> words = new ArrayList<>();
        if (lengths != null) {
            words.addAll(Judge.words(lengths).keySet());
        }
        words.sort(null);
        StringBuilder bits = new StringBuilder();
        for (int i = 0; i < n && !words.isEmpty(); i++) {
            bits.append(words.get(random.nextInt(words.size())));
        }
        if (slips()) {
            bits.append(random.nextBoolean() ? "0" : "1");
        }
        return Make.reversedText(bits.toString());
    }

    /** Lengths by leaves that part, then WEIGHTS, told in one of the two ways. */
    byte[] code() {
        List<Integer> depths = new ArrayList<>(List.of(1, 1));
        int parts = some(200);
        int most = 3 + upTo(8);
        for (int i = 0; i < parts; i++) {
            int k = random.nextInt(depths.size());
            if (depths.get(k) < most) {
                int deeper = depths.get(k) + 1;
                depths.set(k, deeper);
                depths.add(deeper);
            }
        }
        int longest = depths.stream().mapToInt(Integer::intValue).max().getAsInt();
        int[] all = new int[256];
        int symbols = Math.min(256, depths.size() + some(256));
        java.util.Collections.shuffle(depths, random);
        for (int i = 0; i < depths.size(); i++) {
            int s = i == 0 ? symbols - 1 : random.nextInt(symbols);
            while (all[s] != 0) {
                s = (s + 1) % symbols;
            }
            all[s] = depths.get(i);
        }
        int[] weights = new int[symbols - 1];
        for (int s = 0; s < weights.length; s++) {
            weights[s] = all[s] == 0 ? 0 : longest + 1 - all[s];
        }
        if (slips() && weights.length > 0) {
            weights[random.nextInt(weights.length)] = upTo(13);
        }
        byte[] told = toldWeights(weights);
        if (told == null) {
            lengths = new int[256];
            lengths[0] = 1;
            lengths[1] = 1;
            return Make.bytes(128, 0x10);
        }
        lengths = all;
        return told;
    }

    private byte[] toldWeights(int[] weights) {
        if (weights.length <= 128 && random.nextBoolean()) {
            byte[] told = new byte[1 + (weights.length + 1) / 2];
            told[0] = (byte) (127 + weights.length);
            for (int i = 0; i < weights.length; i++) {
                told[1 + i / 2] |= (byte) (weights[i] << (i % 2 == 0 ? 4 : 0));
            }
            return told;
        }
        return weightsInTurn(weights);
    }

    /** Null where the weights cannot be told so. */
    private byte[] weightsInTurn(int[] weights) {
        int n = weights.length;
        if (n < 2) {
            return null;
        }
        int[] often = new int[Arrays.stream(weights).max().getAsInt() + 1];
        for (int w : weights) {
            often[w]++;
        }
        int l = 5 + upTo(1);
        int[] counts = someCounts(often, l);
        States table = new States(l, counts);
        int[] places = new int[n];
        places[n - 1] = anyPlace(table, weights[n - 1], false);
        places[n - 2] = anyPlace(table, weights[n - 2], true);
        if (places[n - 2] < 0) {
            return null;
        }
        long[] fields = new long[2 * n];
        for (int i = n - 3; i >= 0; i--) {
            places[i] = table.before(weights[i], places[i + 2]);
            fields[4 + 2 * i] = places[i + 2] - table.base[places[i]];
            fields[5 + 2 * i] = table.bits[places[i]];
        }
        fields[0] = places[0];
        fields[1] = l;
        fields[2] = places[1];
        fields[3] = l;
        byte[] told = Make.join(Make.counts(l, counts), Make.reversed(fields));
        return told.length > 127 ? null : Make.join(Make.bytes(told.length), told);
    }

    private int anyPlace(States table, int symbol, boolean withBits) {
        int found = -1;
        for (int i = 0; i < table.symbol.length; i++) {
            if (table.symbol[i] == symbol && (!withBits || table.bits[i] > 0) && (found < 0 || random.nextBoolean())) {
                found = i;
            }
        }
        return found;
    }

    /** COUNTS in which every symbol that comes has a place, at times -1. */
    private int[] someCounts(int[] often, int l) {
        int[] counts = new int[often.length];
        int left = 1 << l;
        List<Integer> symbols = new ArrayList<>();
        for (int s = 0; s < often.length; s++) {
            if (often[s] > 0) {
                symbols.add(s);
                counts[s] = random.nextInt(3) == 0 ? -1 : 1;
                left--;
            }
        }
        if (symbols.isEmpty()) {
            symbols.add(0);
        }
        while (left > 0) {
            int s = symbols.get(random.nextInt(symbols.size()));
            int more = 1 + upTo(left - 1);
            counts[s] = Math.abs(counts[s]) + more;
            left -= more;
        }
        return counts;
    }

    private byte[] howMany(int n) {
        if (n == 0) {
            return random.nextInt(4) == 0 ? Make.bytes(128, 0) : Make.bytes(0);
        }
        boolean wide = n >= 128 || random.nextInt(4) == 0;
        return wide ? Make.bytes(128 + n / 256, n % 256) : Make.bytes(n);
    }

    private byte[] sequences(int letters) {
        int n = random.nextInt(4) == 0 ? 0 : random.nextInt(4) == 0 ? some(200) : some(12);
        if (n == 0) {
            came += letters;
            return Make.join(howMany(0), slips() ? Make.bytes(0) : new byte[0]);
        }
        List<int[]> all = new ArrayList<>();
        int left = letters;
        boolean alike = random.nextInt(3) == 0;
        for (int i = 0; i < n; i++) {
            int count = slips() ? some(700) : some(alike ? Math.min(1, left) : Math.min(left, 40));
            int copy = 3 + (alike ? 0 : random.nextInt(20) == 0 ? some(4000) : some(20));
            left = Math.max(0, left - count);
            came += count;
            int value = value(count);
            all.add(new int[] {count, copy, value});
            came += copy;
        }
        came += left;
        return Make.join(howMany(n), toldTables(all));
    }

    private int value(int count) {
        int value = random.nextInt(3) == 0 ? 1 + upTo(2) : 4 + some(Math.max(0, came + reach - 1));
        if (slips()) {
            value = 1 + some(9000);
        }
        if (value <= 3) {
            int which = value + (count == 0 ? 1 : 0);
            int offset = which == 4 ? remembered[0] - 1 : remembered[which - 1];
            if (offset > came + reach || offset == 0) {
                value = slips() || came + reach == 0 ? value : 4;
            } else {
                int index = Math.min(3, which) - 1;
                for (int i = which == 4 ? 2 : index; i > 0; i--) {
                    remembered[i] = remembered[i - 1];
                }
                remembered[0] = offset;
                return value;
            }
        }
        remembered = new int[] {Math.max(1, value - 3), remembered[0], remembered[1]};
        return value;
    }

    private byte[] toldTables(List<int[]> all) {
        int modes = slips() ? upTo(3) : 0;
        byte[] told = new byte[0];
        for (int kind = 0; kind < 3; kind++) {
            int[] often = new int[GREATEST[kind] + 1];
            int greatest = 0;
            for (int[] q : all) {
                int s = Model.symbol(kind, q);
                often[s]++;
                greatest = Math.max(greatest, s);
            }
            int mode = mode(kind, often, all.size(), greatest);
            modes |= mode << 6 - 2 * kind;
            if (mode == 0) {
                tables[kind] = States.byDefault(kind);
            } else if (mode == 1) {
                tables[kind] = States.only(greatest);
                told = Make.join(told, Make.bytes(slips() ? greatest + upTo(60) : greatest));
            } else if (mode == 2) {
                int l = 6 + upTo(MOST_LOG[kind] - 6);
                int[] counts = someCounts(Arrays.copyOf(often, Math.min(often.length, greatest + 1 + some(5))), l);
                tables[kind] = new States(l, last(counts));
                told = Make.join(told, Make.counts(slips() ? l + upTo(1) : l, last(counts)));
            }
        }
        byte[] row = Model.sequenceRow(tables, all);
        if (slips()) {
            row = Make.join(Make.bytes(upTo(255)), row);
        }
        return Make.join(Make.bytes(modes), told, row);
    }

    /** Without the symbols of COUNT 0 at the end, which cannot be told. */
    private static int[] last(int[] counts) {
        int n = counts.length;
        while (counts[n - 1] == 0) {
            n--;
        }
        return Arrays.copyOf(counts, n);
    }

    private int mode(int kind, int[] often, int n, int greatest) {
        boolean[] can = {holds(States.byDefault(kind), often), often[greatest] == n, true, tables[kind] != null && holds(tables[kind], often)};
        int mode = upTo(3);
        while (!can[mode]) {
            mode = (mode + 1) % 4;
        }
        return mode;
    }

    private static boolean holds(States table, int[] often) {
        for (int s = 0; s < often.length; s++) {
            if (often[s] > 0 && (s >= table.counts.length || table.counts[s] == 0)) {
                return false;
            }
        }
        return true;
    }

    /** A dictionary with tables. */
    static byte[] dictionary(Random random, int number) {
        Wild wild = new Wild(random, null, 0);
        byte[] all = Make.join(Make.number(3962610743L, 4), Make.number(number, 4), wild.code());
        for (int kind : new int[] {1, 2, 0}) {
            int[] often = new int[GREATEST[kind] + 1];
            for (int s = 0; s < often.length; s++) {
                often[s] = random.nextInt(4) == 0 ? 0 : 1;
            }
            int l = 6 + random.nextInt(MOST_LOG[kind] - 5);
            all = Make.join(all, Make.counts(l, last(wild.someCounts(often, l))));
        }
        byte[] content = wild.letters(1 + wild.some(1000));
        for (int i = 0; i < 3; i++) {
            all = Make.join(all, Make.number(1 + random.nextInt(content.length), 4));
        }
        return Make.join(all, content);
    }
}

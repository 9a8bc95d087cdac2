import java.util.ArrayList;
import java.util.Arrays;
import java.util.List;

/** Sections 1 to 5 once more, slowly, with texts of bits and exceptions, to compare what open() and keep() answer. */
final class Judge {
    private static final int[] GREATEST = {35, 31, 52};
    private static final int[] MOST_LOG = {9, 8, 9};

    /** What ends an opening. */
    private static final class Fault extends RuntimeException {
        private static final long serialVersionUID = 1;
        final int fault;
        final int place;

        Fault(int fault, int place) {
            this.fault = fault;
            this.place = place;
        }
    }

    /** Something told is wrong; whoever reads it knows which FAULT that is. */
    private static final class Wrong extends RuntimeException {
        private static final long serialVersionUID = 1;
    }

    /** A dictionary; without tables its CODE is null. */
    static final class Kept {
        long number;
        byte[] content = new byte[0];
        int[] remembered = {1, 4, 8};
        States[] tables = new States[3];
        int[] lengths;
    }

    /** What was read, and where it ends. */
    private record Told<T>(T thing, int end) {
    }

    /** Bits that are taken from the first on. */
    private static final class Bits {
        private final String bits;
        private int at;

        private Bits(String bits) {
            this.bits = bits;
        }

        static Bits forward(byte[] row, int from, int end) {
            StringBuilder all = new StringBuilder();
            for (int i = from; i < end; i++) {
                for (int k = 0; k < 8; k++) {
                    all.append(row[i] >> k & 1);
                }
            }
            return new Bits(all.toString());
        }

        static Bits reversed(byte[] row, int from, int end) {
            if (from >= end || row[end - 1] == 0) {
                throw new Wrong();
            }
            String all = new StringBuilder(forward(row, from, end).bits).reverse().toString();
            return new Bits(all.substring(all.indexOf('1') + 1));
        }

        boolean has(int n) {
            return n <= left();
        }

        int left() {
            return bits.length() - at;
        }

        private String word(int n) {
            if (!has(n)) {
                throw new Wrong();
            }
            at += n;
            return "0" + bits.substring(at - n, at);
        }

        long highestFirst(int n) {
            return Long.parseLong(word(n), 2);
        }

        int lowestFirst(int n) {
            String word = word(n).substring(1);
            return Integer.parseInt("0" + new StringBuilder(word).reverse(), 2);
        }
    }

    private final byte[] row;
    private final Kept kept;
    private final long most;
    private int at;

    /** The answer, and all that may be asked behind it. */
    int answer;
    int place = -1;
    final List<Byte> out = new ArrayList<>();
    final int[] told = new int[12];
    final List<long[]> sequences = new ArrayList<>();
    States[] tables = new States[3];
    int[] lengths;

    private long span;
    private long limit;
    private int frameFrom;
    private byte[] content = new byte[0];
    private long[] remembered = new long[3];

    private Judge(byte[] row, Kept kept, long most) {
        this.row = row;
        this.kept = kept;
        this.most = most;
    }

    static Judge open(byte[] row, Kept kept, long most) {
        Judge judge = new Judge(row, kept, most);
        try {
            while (judge.at < row.length) {
                judge.frame();
            }
            judge.answer = judge.out.size();
        } catch (Fault f) {
            judge.answer = -10 - f.fault;
            judge.place = f.place;
        }
        return judge;
    }

    private int bytes(int n) {
        if (n > row.length - at) {
            throw new Fault(1, row.length);
        }
        at += n;
        return at - n;
    }

    private static long number(byte[] row, int from, int n) {
        long v = 0;
        for (int i = 0; i < n; i++) {
            v |= (row[from + i] & 255L) << 8 * i;
        }
        return v;
    }

    private long number(int n) {
        return number(row, bytes(n), n);
    }

    private void frame() {
        int begin = at;
        long mark = number(4);
        if (mark >= 407710288L && mark <= 407710303L) {
            long n = number(4);
            if (n > row.length - at) {
                throw new Fault(1, row.length);
            }
            at += (int) n;
            told[11]++;
            return;
        }
        if (mark != 4247762216L) {
            throw new Fault(2, begin);
        }
        int kindPlace = at;
        int kind = (int) number(1);
        if ((kind & 8) != 0) {
            throw new Fault(3, kindPlace);
        }
        boolean one = (kind & 32) != 0;
        int spanPlace = at;
        long newSpan = 0;
        if (!one) {
            int b = (int) number(1);
            newSpan = (1L << 10 + b / 8) + b % 8 * ((1L << 10 + b / 8) / 8);
            if (newSpan > most) {
                throw new Fault(4, spanPlace);
            }
        }
        int numberPlace = at;
        long dictionary = number(new int[] {0, 1, 2, 4}[kind & 3]);
        if (dictionary != 0 && (kept == null || kept.number != dictionary)) {
            throw new Fault(5, numberPlace);
        }
        int sizePlace = at;
        int f = kind >> 6;
        boolean sized = f > 0 || one;
        long size = f == 0 ? number(one ? 1 : 0) : f == 1 ? number(2) + 256 : f == 2 ? number(4) : number(8);
        if (one) {
            newSpan = size;
            if (Long.compareUnsigned(newSpan, most) > 0) {
                throw new Fault(4, sizePlace);
            }
        }
        begin(newSpan, kept != null && kept.number == dictionary ? kept : null);
        told[10] = sized ? (int) (size & 0x7FFFFFFF) : -1;
        while (!block()) {
            // the last one answers true
        }
        if (sized && size != out.size() - frameFrom) {
            throw new Fault(8, sizePlace);
        }
        if ((kind & 4) != 0) {
            int sumPlace = at;
            long sum = number(4);
            byte[] came = new byte[out.size() - frameFrom];
            for (int i = 0; i < came.length; i++) {
                came[i] = out.get(frameFrom + i);
            }
            if (sum != (RowTest.slowSum(came) & 0xFFFFFFFFL)) {
                throw new Fault(9, sumPlace);
            }
        }
    }

    private void begin(long newSpan, Kept counts) {
        told[0]++;
        span = newSpan;
        limit = Math.min(span, 131072);
        told[9] = (int) (span & 0x7FFFFFFF);
        frameFrom = out.size();
        content = counts == null ? new byte[0] : counts.content;
        tables = counts == null ? new States[3] : counts.tables.clone();
        lengths = counts == null ? null : counts.lengths;
        int[] first = counts == null ? new int[] {1, 4, 8} : counts.remembered;
        for (int i = 0; i < 3; i++) {
            remembered[i] = first[i];
        }
        tellRemembered();
    }

    private void tellRemembered() {
        for (int i = 0; i < 3; i++) {
            told[6 + i] = (int) remembered[i];
        }
    }

    private boolean block() {
        int begin = at;
        int head = (int) number(3);
        told[1]++;
        int kind = head >> 1 & 3;
        int n = head >> 3;
        if (kind == 3 || n > limit) {
            throw new Fault(6, begin);
        }
        int from = bytes(kind == 1 ? 1 : n);
        int before = out.size();
        if (kind == 2) {
            packed(from, from + n);
        } else {
            for (int i = 0; i < n; i++) {
                out.add(row[kind == 1 ? from : from + i]);
            }
        }
        if (out.size() > 8000) {
            throw new Fault(7, begin);
        }
        told[2] += kind == 2 ? 1 : 0;
        told[5] += out.size() - before;
        return (head & 1) != 0;
    }

    private void packed(int from, int end) {
        Told<byte[]> letters = letters(from, end);
        told[3] += letters.thing.length;
        sequences(letters.thing, letters.end, end);
    }

    private Told<byte[]> letters(int from, int end) {
        if (from >= end) {
            throw new Fault(10, from);
        }
        int kind = row[from] & 3;
        int form = row[from] >> 2 & 3;
        int head = kind < 2 ? new int[] {1, 2, 1, 3}[form] : new int[] {3, 3, 4, 5}[form];
        if (from + head > end) {
            throw new Fault(10, from);
        }
        long v = number(row, from, head);
        int width = new int[] {10, 10, 14, 18}[form];
        long size = kind < 2 ? v >> (form % 2 == 0 ? 3 : 4) : v >> 4 & (1 << width) - 1;
        long follow = kind == 0 ? size : kind == 1 ? 1 : v >> 4 + width;
        if (size > limit || from + head + follow > end) {
            throw new Fault(10, from);
        }
        int at = from + head;
        int after = (int) (at + follow);
        if (kind == 0) {
            return new Told<>(Arrays.copyOfRange(row, at, after), after);
        }
        byte[] letters = new byte[(int) size];
        if (kind == 1) {
            Arrays.fill(letters, row[at]);
            return new Told<>(letters, after);
        }
        if (kind == 3 && lengths == null) {
            throw new Fault(12, from);
        }
        if (kind == 2) {
            try {
                Told<int[]> code = code(row, at, after);
                lengths = code.thing;
                at = code.end;
            } catch (Wrong w) {
                throw new Fault(11, at);
            }
        }
        try {
            streams(letters, at, after, form == 0);
        } catch (Wrong w) {
            throw new Fault(13, at);
        }
        return new Told<>(letters, after);
    }

    private void streams(byte[] letters, int from, int end, boolean single) {
        if (single) {
            stream(letters, 0, letters.length, from, end);
            return;
        }
        if (end - from < 6) {
            throw new Wrong();
        }
        int each = (letters.length + 3) / 4;
        int at = from + 6;
        for (int i = 0; i < 4; i++) {
            int size = i < 3 ? (int) number(row, from + 2 * i, 2) : end - at;
            if (at + size > end) {
                throw new Wrong();
            }
            stream(letters, i * each, i < 3 ? (i + 1) * each : letters.length, at, at + size);
            at += size;
        }
    }

    private void stream(byte[] letters, int first, int last, int from, int end) {
        Bits bits = Bits.reversed(row, from, end);
        if (last < first || last > letters.length) {
            throw new Wrong();
        }
        java.util.Map<String, Integer> words = words(lengths);
        for (int i = first; i < last; i++) {
            StringBuilder word = new StringBuilder();
            do {
                word.append(bits.highestFirst(1));
            } while (!words.containsKey(word.toString()));
            letters[i] = words.get(word.toString()).byteValue();
        }
        if (bits.left() > 0) {
            throw new Wrong();
        }
    }

    /** Words by the lengths: the longest first, of the same by number. */
    static java.util.Map<String, Integer> words(int[] lengths) {
        java.util.Map<String, Integer> words = new java.util.HashMap<>();
        int word = 0;
        int before = 0;
        for (int length = 11; length > 0; length--) {
            for (int s = 0; s < 256; s++) {
                if (lengths[s] == length) {
                    word = before == 0 ? 0 : word + 1 >> before - length;
                    before = length;
                    String bits = Integer.toBinaryString(word | 1 << 12);
                    words.put(bits.substring(bits.length() - length), s);
                }
            }
        }
        return words;
    }

    private static Told<int[]> code(byte[] row, int from, int end) {
        if (from >= end) {
            throw new Wrong();
        }
        int b = row[from] & 255;
        List<Integer> weights = new ArrayList<>();
        int after = from + 1 + (b > 127 ? (b - 127 + 1) / 2 : b);
        if (after > end) {
            throw new Wrong();
        }
        if (b > 127) {
            for (int i = 0; i < b - 127; i++) {
                weights.add(row[from + 1 + i / 2] >> (i % 2 == 0 ? 4 : 0) & 15);
            }
        } else {
            Told<States> told = counts(row, from + 1, after, 255, 6);
            weightsInTurn(weights, told.thing, Bits.reversed(row, told.end, after));
        }
        return new Told<>(lengths(weights), after);
    }

    private static void weightsInTurn(List<Integer> weights, States table, Bits bits) {
        int[] states = {(int) bits.highestFirst(table.l), (int) bits.highestFirst(table.l)};
        for (int turn = 0; weights.size() <= 255; turn = 1 - turn) {
            int state = states[turn];
            weights.add(table.symbol[state]);
            if (!bits.has(table.bits[state])) {
                weights.add(table.symbol[states[1 - turn]]);
                return;
            }
            states[turn] = table.base[state] + (int) bits.highestFirst(table.bits[state]);
        }
    }

    private static int[] lengths(List<Integer> weights) {
        if (weights.size() > 255) {
            throw new Wrong();
        }
        int sum = 0;
        for (int w : weights) {
            if (w > 11) {
                throw new Wrong();
            }
            sum += w == 0 ? 0 : 1 << w - 1;
        }
        if (sum == 0) {
            throw new Wrong();
        }
        int n = Model.log(sum) + 1;
        int lack = (1 << n) - sum;
        if (n > 11 || Integer.bitCount(lack) != 1) {
            throw new Wrong();
        }
        weights.add(Model.log(lack) + 1);
        int[] lengths = new int[256];
        for (int s = 0; s < weights.size(); s++) {
            lengths[s] = weights.get(s) == 0 ? 0 : n + 1 - weights.get(s);
        }
        return lengths;
    }

    private static Told<States> counts(byte[] row, int from, int end, int greatest, int mostLog) {
        Bits bits = Bits.forward(row, from, Math.min(end, from + 400));
        int l = bits.lowestFirst(4) + 5;
        if (l > mostLog) {
            throw new Wrong();
        }
        List<Integer> counts = new ArrayList<>();
        int left = 1 << l;
        while (left > 0) {
            int m = Model.log(left + 1) + 1;
            int few = (1 << m) - 2 - left;
            int v = bits.lowestFirst(m - 1);
            if (v >= few && bits.lowestFirst(1) == 1) {
                v += (1 << m - 1) - few;
            }
            int count = v - 1;
            counts.add(count);
            if (count > left || counts.size() > greatest + 1) {
                throw new Wrong();
            }
            left -= Math.abs(count);
            int more = count == 0 ? 3 : 0;
            while (more == 3) {
                more = bits.lowestFirst(2);
                for (int i = 0; i < more; i++) {
                    counts.add(0);
                }
            }
        }
        return new Told<>(new States(l, counts.stream().mapToInt(Integer::intValue).toArray()), from + (bits.at + 7) / 8);
    }

    private void sequences(byte[] letters, int begin, int end) {
        int at = begin;
        if (at >= end) {
            throw new Fault(14, begin);
        }
        int n = row[at++] & 255;
        if (n >= 128) {
            int wide = n == 255 ? 2 : 1;
            if (at + wide > end) {
                throw new Fault(14, begin);
            }
            n = n == 255 ? (int) number(row, at, 2) + 32512 : 256 * (n - 128) + (row[at] & 255);
            at += wide;
        }
        if (n == 0) {
            if (at != end) {
                throw new Fault(14, begin);
            }
            for (byte b : letters) {
                out.add(b);
            }
            return;
        }
        if (at >= end || (row[at] & 3) != 0) {
            throw new Fault(14, begin);
        }
        int modes = row[at++] & 255;
        for (int kind = 0; kind < 3; kind++) {
            at = table(kind, modes >> 6 - 2 * kind & 3, at, end, begin);
        }
        try {
            runAll(letters, n, Bits.reversed(row, at, end), at);
        } catch (Wrong w) {
            throw new Fault(17, at);
        }
    }

    private int table(int kind, int mode, int at, int end, int begin) {
        if (mode == 0) {
            tables[kind] = States.byDefault(kind);
        } else if (mode == 1) {
            if (at >= end || (row[at] & 255) > GREATEST[kind]) {
                throw new Fault(15, at);
            }
            tables[kind] = States.only(row[at]);
            return at + 1;
        } else if (mode == 2) {
            try {
                Told<States> told = counts(row, at, end, GREATEST[kind], MOST_LOG[kind]);
                tables[kind] = told.thing;
                return told.end;
            } catch (Wrong w) {
                throw new Fault(15, at);
            }
        } else if (tables[kind] == null) {
            throw new Fault(16, begin);
        }
        return at;
    }

    private void runAll(byte[] letters, int n, Bits bits, int place) {
        int[] states = new int[3];
        for (int kind = 0; kind < 3; kind++) {
            states[kind] = (int) bits.highestFirst(tables[kind].l);
        }
        int blockFrom = out.size();
        int used = 0;
        for (int i = 0; i < n; i++) {
            int[] symbols = new int[3];
            for (int kind = 0; kind < 3; kind++) {
                symbols[kind] = tables[kind].symbol[states[kind]];
            }
            long value = (1L << symbols[1]) + bits.highestFirst(symbols[1]);
            int copy = Model.COPIES_BASE[symbols[2]] + (int) bits.highestFirst(Model.COPIES_BITS[symbols[2]]);
            int count = Model.LETTERS_BASE[symbols[0]] + (int) bits.highestFirst(Model.LETTERS_BITS[symbols[0]]);
            for (int kind : i < n - 1 ? new int[] {0, 2, 1} : new int[0]) {
                States table = tables[kind];
                states[kind] = table.base[states[kind]] + (int) bits.highestFirst(table.bits[states[kind]]);
            }
            if (used + count > letters.length) {
                throw new Fault(19, place);
            }
            for (int k = 0; k < count; k++) {
                out.add(letters[used++]);
            }
            long offset = copy(value, count, copy, place);
            if (out.size() - blockFrom > limit) {
                throw new Fault(20, place);
            }
            sequences.add(new long[] {count, copy, value, offset});
            told[4]++;
            tellRemembered();
        }
        while (used < letters.length) {
            out.add(letters[used++]);
        }
        if (out.size() - blockFrom > limit) {
            throw new Fault(20, place);
        }
        if (bits.left() > 0) {
            throw new Wrong();
        }
    }

    private long copy(long value, int count, int copy, int place) {
        List<Long> order = new ArrayList<>(List.of(remembered[0], remembered[1], remembered[2]));
        long offset;
        if (value > 3) {
            offset = value - 3;
        } else {
            int which = (int) value + (count == 0 ? 1 : 0);
            offset = which == 4 ? order.get(0) - 1 : order.remove(which - 1);
        }
        order.add(0, offset);
        int came = out.size() - frameFrom;
        boolean reaches = offset > came;
        if (offset == 0 || offset > came + content.length || !reaches && offset > span || reaches && came > span) {
            throw new Fault(18, place);
        }
        for (int k = 0; k < copy; k++) {
            int from = out.size() - frameFrom - (int) offset;
            out.add(from < 0 ? content[content.length + from] : out.get(frameFrom + from));
        }
        for (int i = 0; i < 3; i++) {
            remembered[i] = order.get(i);
        }
        return offset;
    }

    /** The dictionary, or null behind FAULT 21. */
    static Kept keep(byte[] row) {
        Kept kept = new Kept();
        if (row.length < 4 || number(row, 0, 4) != 3962610743L) {
            kept.content = row.clone();
            return kept;
        }
        if (row.length < 8 || number(row, 4, 4) == 0) {
            return null;
        }
        kept.number = number(row, 4, 4);
        try {
            Told<int[]> code = code(row, 8, row.length);
            kept.lengths = code.thing;
            int at = code.end;
            for (int kind : new int[] {1, 2, 0}) {
                Told<States> told = counts(row, at, row.length, GREATEST[kind], MOST_LOG[kind]);
                kept.tables[kind] = told.thing;
                at = told.end;
            }
            if (row.length - at < 12) {
                return null;
            }
            kept.content = Arrays.copyOfRange(row, at + 12, row.length);
            for (int i = 0; i < 3; i++) {
                long v = number(row, at + 4 * i, 4);
                if (v == 0 || v > kept.content.length) {
                    return null;
                }
                kept.remembered[i] = (int) v;
            }
            return kept;
        } catch (Wrong w) {
            return null;
        }
    }

    /** Compares all that can be asked of an object whose latest call was the open() of this row. */
    void compare(String what, TabledFrames x, int answered) {
        Check.due(what + ": open", answered, answer);
        Check.due(what + ": place", x.place(), place);
        for (int i = 0; i < 12; i++) {
            Check.due(what + ": told(" + i + ")", x.told(i), told[i]);
        }
        for (int i = 0; i < Math.min(2000, sequences.size()); i++) {
            for (int k = 0; k < 4; k++) {
                Check.due(what + ": sequence(" + i + ", " + k + ")", x.sequence(i, k), sequences.get(i)[k]);
            }
        }
        Check.due(what + ": no more sequences", x.sequence(Math.min(2000, sequences.size()), 0), -2);
        for (int kind = 0; kind < 3; kind++) {
            if (tables[kind] == null) {
                Check.due(what + ": no table", x.table(kind, 0, 0), -3);
            } else {
                tables[kind].compare(what + ": table " + kind, x, kind);
            }
        }
        for (int s = 0; s < 256; s++) {
            Check.due(what + ": bits(" + s + ")", x.bits(s), lengths == null ? -3 : lengths[s]);
        }
        for (int i = 0; answer >= 0 && i < answer; i++) {
            Check.due(what + ": out(" + i + ")", x.out(i), out.get(i) & 255);
        }
    }
}

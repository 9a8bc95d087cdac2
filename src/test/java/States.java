/** A table of states, made slowly and by the words of section 2. */
final class States {
    static final int[] DEFAULT_LETTERS = {
        4, 3, 2, 2, 2, 2, 2, 2, 2, 2, 2, 2, 2, 1, 1, 1, 2, 2, 2, 2, 2, 2, 2, 2, 2, 3, 2, 1, 1, 1, 1, 1, -1, -1, -1, -1};
    static final int[] DEFAULT_OFFSETS = {
        1, 1, 1, 1, 1, 1, 2, 2, 2, 1, 1, 1, 1, 1, 1, 1, 1, 1, 1, 1, 1, 1, 1, 1, -1, -1, -1, -1, -1};

    final int l;
    final int[] counts;
    final int[] symbol;
    final int[] bits;
    final int[] base;

    States(int l, int... counts) {
        this.l = l;
        this.counts = counts;
        int size = 1 << l;
        symbol = new int[size];
        bits = new int[size];
        base = new int[size];
        java.util.Arrays.fill(symbol, -1);
        int end = size;
        for (int s = 0; s < counts.length; s++) {
            if (counts[s] == -1) {
                symbol[--end] = s;
            }
        }
        int p = 0;
        for (int s = 0; s < counts.length; s++) {
            for (int i = 0; i < counts[s]; i++) {
                symbol[p] = s;
                do {
                    p = (p + size / 2 + size / 8 + 3) % size;
                } while (p >= end);
            }
        }
        int[] seen = new int[counts.length];
        for (int i = 0; i < size; i++) {
            int x = Math.abs(counts[symbol[i]]) + seen[symbol[i]]++;
            bits[i] = l - Model.log(x);
            base[i] = x * (1 << bits[i]) - size;
        }
    }

    /** The table of one place. */
    static States only(int symbol) {
        int[] counts = new int[symbol + 1];
        counts[symbol] = 1;
        return new States(0, counts);
    }

    static States byDefault(int kind) {
        if (kind == 0) {
            return new States(6, DEFAULT_LETTERS);
        }
        if (kind == 1) {
            return new States(5, DEFAULT_OFFSETS);
        }
        int[] copies = new int[53];
        int[] first = {1, 4, 3, 2, 2, 2, 2, 2, 2};
        for (int i = 0; i < 53; i++) {
            copies[i] = i < first.length ? first[i] : i < first.length + 37 ? 1 : -1;
        }
        return new States(6, copies);
    }

    int first(int s) {
        for (int i = 0; i < symbol.length; i++) {
            if (symbol[i] == s) {
                return i;
            }
        }
        throw new IllegalArgumentException("no place of " + s);
    }

    int before(int s, int next) {
        for (int i = 0; i < symbol.length; i++) {
            if (symbol[i] == s && base[i] <= next && next < base[i] + (1 << bits[i])) {
                return i;
            }
        }
        throw new IllegalArgumentException("no place of " + s + " leads to " + next);
    }

    /** Compares every place with what table() tells. */
    void compare(String what, TabledFrames x, int kind) {
        Check.due(what + ": l", x.table(kind, -1, 0), l);
        for (int i = 0; i < symbol.length; i++) {
            Check.due(what + ": symbol of " + i, x.table(kind, i, 0), symbol[i]);
            Check.due(what + ": bits of " + i, x.table(kind, i, 1), bits[i]);
            Check.due(what + ": base of " + i, x.table(kind, i, 2), base[i]);
        }
        Check.due(what + ": no such place", x.table(kind, symbol.length, 0), -2);
        Check.due(what + ": no such place", x.table(kind, -2, 0), -2);
    }
}

import java.util.Arrays;

/** Section 2: counts as they are told, and the tables by them, each at its edges. */
final class TablesEdges {
    private static final int[] GREATEST = {35, 31, 52};
    private static final int[] MOST_LOG = {9, 8, 9};
    /** Where counts begin in a frame of one block without letters whose other tables are default ones. */
    private static final int AT = 9 + 1 + 2;

    private TablesEdges() {
    }

    static void all() {
        log();
        together();
        lowest();
        steps();
        places();
        states();
        leastAndGreatestLog();
        widths();
        widthsAtTheEnd();
        zeros();
        zerosToTheEnd();
        byteEnds();
        logTooGreat();
        countTooGreat();
        defaults();
        greatest();
    }

    /** A frame whose one block has no letters, and but this table; its row lacks, so that it is told and nothing else. */
    private static byte[] telling(int kind, byte[] counts) {
        return Make.one(Make.bytes(0, 1, 2 << (6 - 2 * kind)), counts);
    }

    /** The table that such counts tell: FAULT 17 comes behind them. */
    private static TabledFrames told(String what, int kind, byte[] counts) {
        return Check.fault(what, telling(kind, counts), 17, AT + counts.length);
    }

    private static void wrong(String what, int kind, byte[] counts) {
        TabledFrames x = Check.fault(what, telling(kind, counts), 15, AT);
        Check.due(what + ": it is no table", x.table(kind, -1, 0), -3);
    }

    private static void is(String what, TabledFrames x, int kind, int[][] symbolBitsBase) {
        for (int i = 0; i < symbolBitsBase.length; i++) {
            for (int k = 0; k < 3; k++) {
                Check.due(what + ": place " + i + ", what " + k, x.table(kind, i, k), symbolBitsBase[i][k]);
            }
        }
    }

    private static void log() {
        Check.says("LOG(v): n with 2^n <= v < 2^(n+1).");
        TabledFrames x = told("counts of 1, 3 and 28", 1, Make.counts(5, 1, 3, 28));
        int[] seen = new int[3];
        int[][] bits = {{5}, {4, 3, 3}, {1, 1, 1, 1, 0}};
        for (int i = 0; i < 32; i++) {
            int s = x.table(1, i, 0);
            int n = seen[s]++;
            if (n < bits[s].length) {
                Check.due("symbol " + s + ", its place " + n, x.table(1, i, 1), bits[s][n]);
            }
        }
        Check.due("of 31 the log is 4, of 32 it is 5", seen[2], 28);
    }

    private static void together() {
        Check.says("COUNTS for symbols 0, 1, .. with a LOG l: each 0 or more, or -1 (it counts as 1); together 2^l.");
        for (int l = 5; l <= 9; l++) {
            int all = 1 << l;
            new States(l, all).compare("one of all", told("one of all, " + l, 2, Make.counts(l, all)), 2);
            new States(l, 0, 0, 0, all).compare("the fourth of all", told("the fourth of all, " + l, 2, Make.counts(l, 0, 0, 0, all)), 2);
            new States(l, -1, all - 1).compare("-1 and the rest", told("-1 and the rest, " + l, 2, Make.counts(l, -1, all - 1)), 2);
            new States(l, all - 1, -1).compare("the rest and -1", told("the rest and -1, " + l, 2, Make.counts(l, all - 1, -1)), 2);
            new States(l, 1, all - 1).compare("1 and the rest", told("1 and the rest, " + l, 2, Make.counts(l, 1, all - 1)), 2);
            new States(l, all - 2, -1, 1).compare("-1 and 1", told("-1 and 1, " + l, 2, Make.counts(l, all - 2, -1, 1)), 2);
        }
        TabledFrames x = told("one of all", 2, Make.counts(5, 32));
        for (int i = 0; i < 32; i++) {
            is("its state has no bits", x, 2, new int[][] {{0, 0, 0}, {0, 0, 1}});
            Check.due("base of " + i, x.table(2, i, 2), i);
        }
    }

    private static void lowest() {
        Check.says("Symbols with -1, from the least on, have the last place, the one before that, and so on.");
        TabledFrames x = told("three of -1", 2, Make.counts(5, 19, -1, 5, -1, 4, 1, -1));
        int[] symbols = {6, 3, 1};
        for (int i = 0; i < 3; i++) {
            Check.due("symbol", x.table(2, 29 + i, 0), symbols[i]);
            Check.due("bits", x.table(2, 29 + i, 1), 5);
            Check.due("base", x.table(2, 29 + i, 2), 0);
        }
        for (int i = 0; i < 29; i++) {
            int symbol = x.table(2, i, 0);
            Check.due("before them is none", symbol == 1 || symbol == 3 || symbol == 6 ? 1 : 0, 0);
        }
        int[] all = new int[32];
        Arrays.fill(all, -1);
        x = told("all are -1", 1, Make.counts(5, all));
        for (int i = 0; i < 32; i++) {
            Check.due("all are -1, place " + i, x.table(1, i, 0), 31 - i);
        }
        Arrays.fill(all, 0, 31, -1);
        all[31] = 1;
        x = told("all but the last are -1", 1, Make.counts(5, all));
        Check.due("the first place is the only one left", x.table(1, 0, 0), 31);
        Check.due("the last place", x.table(1, 31, 0), 0);
    }

    private static void steps() {
        Check.says("place p, 0 at first; then p becomes (p + 2^l / 2 + 2^l / 8 + 3) modulo 2^l, again as long as that is one of those at the end.");
        int[] steps = {23, 43, 83, 163, 323};
        for (int l = 5; l <= 9; l++) {
            int size = 1 << l;
            int third = steps[l - 5] * 2 % size;
            TabledFrames x = told("1, 1, the rest", 2, Make.counts(l, 1, 1, 1, size - 3));
            Check.due("l " + l + ": at first", x.table(2, 0, 0), 0);
            Check.due("l " + l + ": one step", x.table(2, steps[l - 5], 0), 1);
            Check.due("l " + l + ": two steps, round the end", x.table(2, third, 0), 2);
        }
        TabledFrames x = told("places 9 to 31 are at the end", 1, Make.counts(5, lowFrom(23)));
        int p = 0;
        for (int i = 0; i < 9; i++) {
            Check.due("step " + i, x.table(1, p, 0), 23 + i);
            do {
                p = (p + 23) % 32;
            } while (p > 8);
        }
        Check.due("the last before the end", x.table(1, 8, 0) >= 23 ? 1 : 0, 1);
        Check.due("the first at the end", x.table(1, 9, 0), 22);
    }

    /** So many of -1, then as many of 1 as are left. */
    private static int[] lowFrom(int n) {
        int[] counts = new int[32];
        Arrays.fill(counts, 0, n, -1);
        Arrays.fill(counts, n, 32, 1);
        return counts;
    }

    private static void places() {
        Check.says("the i-th place (from 0) of a symbol with COUNT c has x = c + i: BITS l - LOG(x), BASE x 2^BITS - 2^l.");
        TabledFrames x = told("halves", 2, Make.counts(5, 16, 16));
        is("halves", x, 2, new int[][] {{0, 1, 0}, {0, 1, 2}, {0, 1, 4}, {1, 1, 0}, {1, 1, 2}, {0, 1, 6}, {0, 1, 8}, {1, 1, 4}});
        x = told("31 and 1", 2, Make.counts(5, 31, 1));
        is("31 and 1", x, 2, new int[][] {{0, 1, 30}, {0, 0, 0}, {0, 0, 1}});
        int alone = 31 * 23 % 32;
        Check.due("the one alone", x.table(2, alone, 0), 1);
        Check.due("its bits", x.table(2, alone, 1), 5);
        Check.due("its base", x.table(2, alone, 2), 0);
        x = told("the widest", 2, Make.counts(9, 511, -1));
        Check.due("its bits", x.table(2, 511, 1), 9);
        Check.due("x is 1021", x.table(2, 510, 2), 1021 - 512);
    }

    /** LETTERS 1 and 2 in turn, so that the state goes on by its bits, from the least and to the greatest place. */
    private static void states() {
        Check.says("A STATE is a place. It is told at first by l bits; its symbol is the place's; the next one is BASE and a number of BITS bits.");
        States letters = new States(5, 0, 16, 16);
        byte[] counts = Make.counts(5, 0, 16, 16);
        for (int first = 0; first < 32; first++) {
            for (int bit = 0; bit < 2; bit++) {
                int second = letters.base[first] + bit;
                byte[] row = Make.reversed(first, 5, bit, 1);
                byte[] frame = Make.one(Make.plain(Make.text("abcdef")), Make.bytes(2, 0x94), counts, Make.bytes(0, 0), row);
                TabledFrames x = Check.fine("from " + first + " by " + bit, frame, 6 + 6);
                Check.due("the first", x.sequence(0, 0), letters.symbol[first]);
                Check.due("the second", x.sequence(1, 0), letters.symbol[second]);
            }
        }
    }

    private static void leastAndGreatestLog() {
        Check.says("COUNTS ARE TOLD (from a byte on): four bits: l - 5.");
        for (int kind = 0; kind < 3; kind++) {
            for (int l = 5; l <= MOST_LOG[kind]; l++) {
                TabledFrames x = told("l " + l, kind, Make.counts(l, 1 << l - 1, 1 << l - 1));
                for (int what = 0; what < 3; what++) {
                    Check.due("l of kind " + kind, x.table(kind, -1, what), l);
                }
                Check.due("the last place", x.table(kind, (1 << l) - 1, 0) >= 0 ? 1 : 0, 1);
                Check.due("none behind it", x.table(kind, 1 << l, 0), -2);
            }
        }
    }

    /** Bits of COUNTS by hand, as they come: a word for each part. */
    private static byte[] byHand(String bits) {
        String all = bits.replace(" ", "");
        byte[] told = new byte[(all.length() + 7) / 8];
        for (int i = 0; i < all.length(); i++) {
            told[i / 8] |= (byte) (all.charAt(i) - '0' << i % 8);
        }
        return told;
    }

    private static String lowFirst(int v, int n) {
        StringBuilder bits = new StringBuilder();
        for (int i = 0; i < n; i++) {
            bits.append(v >> i & 1);
        }
        return bits.toString();
    }

    /** With R = 32 m is 6, and v below 30 has five bits. */
    private static void widths() {
        Check.says("m = LOG(R + 1) + 1; m - 1 bits v; if v is not below 2^m - 2 - R, one bit more, t: v + 2^(m - 1) t, less 2^m - 2 - R if t is 1.");
        for (int count = -1; count <= 32; count++) {
            String first = count < 29 ? lowFirst(count + 1, 5) : count == 29 ? "01111 0" : count == 30 ? "11111 0" : count == 31 ? "01111 1" : "11111 1";
            int[] counts = count == 32 ? new int[] {32} : new int[] {count, 32 - Math.abs(count)};
            byte[] told = Make.counts(5, counts);
            byte[] hand = byHand("0000" + first);
            for (int i = 0; i < 9 + (count < 29 ? 0 : 1); i++) {
                Check.due("count " + count + ", bit " + i, told[i / 8] >> i % 8 & 1, hand[i / 8] >> i % 8 & 1);
            }
            TabledFrames x = told("count " + count, 2, told);
            new States(5, counts).compare("count " + count, x, 2);
        }
        Check.says("Then, R being 2^l at first, as long as R is above 0, symbol by symbol:");
        new States(5, 32).compare("all at once, by hand", told("all at once, by hand", 2, byHand("0000 11111 1")), 2);
    }

    /** With R = 1 m is 2, and v below 1 has one bit; with R = 2 m is 2, and all have two; with R = 3 m is 3, and v below 3 has two. */
    private static void widthsAtTheEnd() {
        Check.says("The COUNT is v - 1; R becomes less by it (by 1 for -1).");
        String to1 = "0000 01111 1";
        new States(5, 31, -1).compare("31, -1", told("31, -1", 2, byHand(to1 + "0")), 2);
        new States(5, 31, 1).compare("31, 1", told("31, 1", 2, byHand(to1 + "1 1")), 2);
        new States(5, 31, 0, 1).compare("31, 0, 1", told("31, 0, 1", 2, byHand(to1 + "1 0 00 1 1")), 2);
        new States(5, 31, 0, -1).compare("31, 0, -1", told("31, 0, -1", 2, byHand(to1 + "1 0 00 0")), 2);
        String to2 = "0000 11111 0";
        new States(5, 30, -1, -1).compare("30, -1, -1", told("30, -1, -1", 2, byHand(to2 + "0 0 0")), 2);
        new States(5, 30, 1, 1).compare("30, 1, 1", told("30, 1, 1", 2, byHand(to2 + "0 1 1 1")), 2);
        new States(5, 30, 2).compare("30, 2", told("30, 2", 2, byHand(to2 + "1 1")), 2);
        new States(5, 30, 0, 2).compare("30, 0, 2", told("30, 0, 2", 2, byHand(to2 + "1 0 00 1 1")), 2);
        String to3 = "0000 01111 0";
        new States(5, 29, -1, 2).compare("29, -1, 2", told("29, -1, 2", 2, byHand(to3 + "00 1 1")), 2);
        new States(5, 29, 1, 2).compare("29, 1, 2", told("29, 1, 2", 2, byHand(to3 + "01 1 1")), 2);
        new States(5, 29, 2, 1).compare("29, 2, 1", told("29, 2, 1", 2, byHand(to3 + "11 0 1 1")), 2);
        new States(5, 29, 3).compare("29, 3", told("29, 3", 2, byHand(to3 + "11 1")), 2);
        new States(5, 29, 0, 3).compare("29, 0, 3", told("29, 0, 3", 2, byHand(to3 + "10 00 11 1")), 2);
    }

    private static void zeros() {
        Check.says("If it is 0: two bits: so many symbols more have 0; with 3, two bits more, and so on.");
        String[] more = {"00", "10", "01", "11 00", "11 10", "11 01", "11 11 00", "11 11 10", "11 11 01", "11 11 11 00"};
        for (int n = 0; n < more.length; n++) {
            int[] counts = new int[n + 2];
            counts[n + 1] = 32;
            byte[] hand = byHand("0000 10000" + more[n] + "11111 1");
            new States(5, counts).compare(n + " more", told(n + " more", 2, hand), 2);
            Check.due(n + " more: as made", Arrays.equals(hand, Make.counts(5, counts)) ? 1 : 0, 1);
        }
        new States(5, 1, 0, 0, 0, 0, 31).compare("behind a count", told("behind a count", 2, Make.counts(5, 1, 0, 0, 0, 0, 31)), 2);
        new States(5, 1, 0, 1, 0, 30).compare("twice", told("twice", 2, Make.counts(5, 1, 0, 1, 0, 30)), 2);
    }

    /** Zeros up to the symbol before the greatest, whatever the widths of their groups; one symbol more is above it. */
    private static void zerosToTheEnd() {
        Check.says("a symbol above its greatest (when R is not 0).");
        for (int kind = 0; kind < 3; kind++) {
            for (int at = GREATEST[kind] - 4; at <= GREATEST[kind] + 4; at++) {
                int[] counts = new int[at + 1];
                counts[0] = 5;
                counts[at] = 27;
                if (at <= GREATEST[kind]) {
                    new States(5, counts).compare("symbol " + at, told("symbol " + at, kind, Make.counts(5, counts)), kind);
                } else {
                    wrong("symbol " + at + " of kind " + kind, kind, Make.join(Make.counts(5, counts), Make.bytes(1, 1, 1)));
                }
            }
            int[] all = new int[GREATEST[kind] + 1];
            Arrays.fill(all, 1);
            all[0] = 64 - GREATEST[kind];
            new States(6, all).compare("each symbol", told("each symbol", kind, Make.counts(6, all)), kind);
            all[GREATEST[kind]] = -1;
            new States(6, all).compare("each symbol, the greatest -1", told("each symbol", kind, Make.counts(6, all)), kind);
            int[] more = new int[GREATEST[kind] + 2];
            Arrays.fill(more, 1);
            more[0] = 64 - GREATEST[kind] - 1;
            wrong("each symbol and one more", kind, Make.join(Make.counts(6, more), Make.bytes(1, 1)));
            int[] zeros = new int[GREATEST[kind] + 2];
            zeros[0] = 31;
            zeros[GREATEST[kind] + 1] = 1;
            wrong("zeros above the greatest", kind, Make.join(Make.counts(5, zeros), Make.bytes(1, 1)));
        }
    }

    /** COUNTS of 23, zeros and 9 have 4 + 5, 3 and groups, 4 bits; those of 29, zeros and 3 have 4 + 6, 2 and groups, 3. */
    private static void byteEnds() {
        Check.says("Bits up to the byte's end are passed over.");
        int[] ends = new int[8];
        for (int n = 0; n < 80; n++) {
            int zeros = n / 2;
            boolean odd = n % 2 == 1;
            int[] counts = new int[zeros + 2];
            counts[0] = odd ? 29 : 23;
            counts[zeros + 1] = 32 - counts[0];
            byte[] told = Make.counts(5, counts);
            int groups = zeros == 0 ? 0 : 1 + (zeros - 1) / 3;
            int used = 13 + (zeros == 0 ? 0 : (odd ? 2 : 3) + 2 * groups);
            ends[used % 8]++;
            Check.due("as many bytes", told.length, (used + 7) / 8);
            for (int over = used; over < 8 * told.length; over++) {
                told[over / 8] |= (byte) (1 << over % 8);
            }
            TabledFrames x = told("bits of 1 behind " + used, 2, told);
            new States(5, counts).compare("bits of 1 behind " + used, x, 2);
            wrong("the last byte lacks, " + used, 2, Make.first(told, told.length - 1));
        }
        for (int i = 0; i < 8; i++) {
            Check.due("some end behind so many bits of a byte, " + i, ends[i] > 0 ? 1 : 0, 1);
        }
    }

    private static void logTooGreat() {
        Check.says("FAULT 15: l above its most;");
        for (int kind = 0; kind < 3; kind++) {
            for (int l = MOST_LOG[kind] + 1; l <= 20; l++) {
                wrong("l " + l + " of kind " + kind, kind, Make.join(Make.counts(l, 1 << l - 1, 1 << l - 1), Make.bytes(1)));
            }
            wrong("no byte, kind " + kind, kind, new byte[0]);
            wrong("l alone, kind " + kind, kind, Make.bytes(0));
        }
    }

    private static void countTooGreat() {
        Check.says("a COUNT above R;");
        // v is R + 1 at most, so that no bits tell such a COUNT: those that tell the most tell all of R
        for (int l = 5; l <= 9; l++) {
            TabledFrames x = told("all bits are 1", 2, byHand(lowFirst(l - 5, 4) + "1".repeat(l + 1)));
            new States(l, 1 << l).compare("all of R", x, 2);
        }
    }

    private static void defaults() {
        Check.says("DEFAULT: LETTERS, l = 6: 4 3 2 2 2 2 2 2 2 2 2 2 2 1 1 1 2 2 2 2 2 2 2 2 2 3 2 1 1 1 1 1 -1 -1 -1 -1.");
        TabledFrames x = Check.fault("default tables", Make.one(Make.bytes(0, 1, 0)), 17, AT);
        is("letters", x, 0, new int[][] {{0, 4, 0}, {0, 4, 16}, {1, 5, 32}, {3, 5, 0}, {4, 5, 0}, {6, 5, 0}, {7, 5, 0}, {9, 5, 0}, {10, 5, 0}, {12, 5, 0}, {14, 6, 0}});
        int[] last = {35, 34, 33, 32};
        for (int i = 0; i < 4; i++) {
            Check.due("letters at the end", x.table(0, 60 + i, 0), last[i]);
        }
        Check.due("none behind", x.table(0, 64, 0), -2);
        Check.says("OFFSETS, l = 5: 1 1 1 1 1 1 2 2 2 1 1 1 1 1 1 1 1 1 1 1 1 1 1 1 -1 -1 -1 -1 -1.");
        is("offsets", x, 1, new int[][] {{0, 5, 0}, {6, 4, 0}, {9, 5, 0}, {15, 5, 0}, {21, 5, 0}, {3, 5, 0}, {7, 4, 0}, {12, 5, 0}});
        for (int i = 0; i < 5; i++) {
            Check.due("offsets at the end", x.table(1, 27 + i, 0), 28 - i);
        }
        Check.due("none behind", x.table(1, 32, 0), -2);
        Check.says("COPIES, l = 6: 1 4 3 2 2 2 2 2 2, then 37 times 1, then seven times -1.");
        is("copies", x, 2, new int[][] {{0, 6, 0}, {1, 4, 0}, {2, 5, 32}, {3, 5, 0}, {5, 5, 0}, {6, 5, 0}, {8, 5, 0}, {10, 6, 0}});
        for (int i = 0; i < 7; i++) {
            Check.due("copies at the end", x.table(2, 57 + i, 0), 52 - i);
        }
        Check.due("none behind", x.table(2, 64, 0), -2);
        for (int kind = 0; kind < 3; kind++) {
            States.byDefault(kind).compare("all of kind " + kind, x, kind);
        }
    }

    private static void greatest() {
        Check.says("The greatest symbols: 35, 31, 52, and most l: 9, 8, 9.");
        for (int kind = 0; kind < 3; kind++) {
            int[] counts = new int[GREATEST[kind] + 1];
            counts[0] = (1 << MOST_LOG[kind]) - 1;
            counts[GREATEST[kind]] = 1;
            byte[] told = Make.counts(MOST_LOG[kind], counts);
            new States(MOST_LOG[kind], counts).compare("kind " + kind, told("kind " + kind, kind, told), kind);
            int[] above = new int[GREATEST[kind] + 2];
            above[0] = 31;
            above[GREATEST[kind] + 1] = 1;
            wrong("a greater symbol of kind " + kind, kind, Make.join(Make.counts(5, above), Make.bytes(1, 1)));
            int l = MOST_LOG[kind] + 1;
            wrong("a greater l of kind " + kind, kind, Make.join(Make.counts(l, (1 << l) - 1, 1), Make.bytes(1, 1)));
        }
    }
}

/** Promises 1 to 9, 14 and 15: the row, what came out, the sum, each at its edges. */
final class CallsEdges {
    /** The first bytes of fill() from seed 0, by the published run of numbers 3C6EF35F 47502932 D1CCF6E9 .. */
    private static final int[] FROM_0 = {0x3C, 0x47, 0xD1, 0xAA, 0x62, 0x9F, 0x57, 0xA3, 0x81, 0x94, 0xCB};

    private CallsEdges() {
    }

    static void all() {
        newObject();
        feed();
        feedEmpties();
        feedRefuses();
        fill();
        fillWraps();
        fillRefuses();
        size();
        set();
        cut();
        again();
        againRefuses();
        swap();
        differ();
        out();
        sum();
        sumOfFewAndMany();
        sumWraps();
    }

    /** The row is just these bytes; looking changes nothing. */
    static void row(String what, TabledFrames x, int... want) {
        Check.due(what + ": size", x.size(), want.length);
        for (int i = 0; i < want.length; i++) {
            int b = x.set(i, 0);
            Check.due(what + ": byte " + i, b, want[i]);
            x.set(i, Math.max(b, 0));
        }
    }

    private static TabledFrames filled(int n) {
        TabledFrames x = new TabledFrames();
        Check.due("fill", x.fill(n, 1, 0), n);
        return x;
    }

    private static void newObject() {
        Check.says("`TabledFrames()`: An empty row, nothing came out, no dictionary; PLACE -1.");
        TabledFrames x = new TabledFrames();
        Check.due("size", x.size(), 0);
        Check.due("out(0)", x.out(0), -2);
        Check.due("differ", x.differ(), -3);
        Check.due("pack with a dictionary", x.pack(0, 4), -3);
        Check.due("place", x.place(), -1);
        Check.due("swap", x.swap(), 0);
        Check.due("open", new TabledFrames().open(0), 0);
        Check.due("sum of nothing", new TabledFrames().sum(false), 0x51D8E999);
        TabledFrames y = Check.with(Make.head(1, 0, 1));
        Check.fault("its number is no dictionary's", y, 1024, 5, 6);
    }

    private static void feed() {
        Check.says("The n lowest bytes of v, the highest first, come behind THE ROW: how many it has;");
        long v = 0x80FF7F0102030405L;
        int[] bytes = {0x80, 0xFF, 0x7F, 1, 2, 3, 4, 5};
        for (int n = 1; n <= 8; n++) {
            TabledFrames x = new TabledFrames();
            Check.due("feed " + n, x.feed(v, n), n);
            row("feed " + n, x, java.util.Arrays.copyOfRange(bytes, 8 - n, 8));
            Check.due("feed 1 behind it", x.feed(-1, 1), n + 1);
            Check.due("behind it", x.set(n, 0), 255);
        }
        TabledFrames x = new TabledFrames();
        Check.due("the least v", x.feed(Long.MIN_VALUE, 8), 8);
        Check.due("the greatest v", x.feed(Long.MAX_VALUE, 8), 16);
        row("the least and the greatest", x, 0x80, 0, 0, 0, 0, 0, 0, 0, 0x7F, 255, 255, 255, 255, 255, 255, 255);
    }

    private static void feedEmpties() {
        Check.says("with n = 0 it is empty: 0.");
        TabledFrames x = new TabledFrames();
        Check.due("an empty row", x.feed(7, 0), 0);
        x.feed(1, 1);
        Check.due("one byte", x.feed(7, 0), 0);
        Check.due("size", x.size(), 0);
        Check.due("no byte 0", x.set(0, 0), -2);
        x = filled(8000);
        Check.due("a full row", x.feed(7, 0), 0);
        Check.due("size", x.size(), 0);
        Check.due("there is room again", x.feed(7, 8), 8);
    }

    private static void feedRefuses() {
        Check.says("-2 n is not 0 .. 8, -4 there would be more than 8000.");
        for (int n : new int[] {-1, 9, Integer.MIN_VALUE, Integer.MAX_VALUE}) {
            Check.due("n " + n, new TabledFrames().feed(1, n), -2);
            Check.due("n " + n + " in a full row", filled(8000).feed(1, n), -2);
        }
        for (int n = 1; n <= 8; n++) {
            TabledFrames x = filled(8001 - n);
            Check.due("8001 by " + n, x.feed(1, n), -4);
            Check.due("size", x.size(), 8001 - n);
            x.cut(8000 - n);
            Check.due("8000 by " + n, x.feed(1, n), 8000);
        }
    }

    private static void fill() {
        Check.says("n bytes come behind THE ROW: z is the seed at first; for each z becomes z * 1664525 + 1013904223 (wrapping),");
        Check.says("and the byte is z moved right by 24, zeros coming in, and by so many bits more (0 .. 7). How many it has.");
        for (int bits = 0; bits <= 7; bits++) {
            TabledFrames x = new TabledFrames();
            x.feed(9, 1);
            Check.due("bits " + bits, x.fill(FROM_0.length, 0, bits), 1 + FROM_0.length);
            for (int i = 0; i < FROM_0.length; i++) {
                Check.due("bits " + bits + ", byte " + i, x.set(1 + i, 0), FROM_0[i] / (1 << bits));
            }
        }
        TabledFrames x = new TabledFrames();
        Check.due("none of an empty row", x.fill(0, 5, 0), 0);
        Check.due("8000", x.fill(8000, 5, 0), 8000);
        Check.due("none of a full row", x.fill(0, 5, 7), 8000);
    }

    private static void fillWraps() {
        Check.says("(wrapping)");
        for (int seed : new int[] {1, -1, Integer.MAX_VALUE, Integer.MIN_VALUE, 0x55555555, -1013904223}) {
            TabledFrames x = new TabledFrames();
            Check.due("fill", x.fill(50, seed, 0), 50);
            java.math.BigInteger z = java.math.BigInteger.valueOf(seed);
            for (int i = 0; i < 50; i++) {
                z = z.multiply(java.math.BigInteger.valueOf(1664525)).add(java.math.BigInteger.valueOf(1013904223));
                z = z.mod(java.math.BigInteger.ONE.shiftLeft(32));
                Check.due("seed " + seed + ", byte " + i, x.set(i, 0), z.shiftRight(24).intValue());
            }
        }
    }

    private static void fillRefuses() {
        Check.says("-2 n is below 0, or the bits are none, -4.");
        TabledFrames x = filled(10);
        for (int n : new int[] {-1, Integer.MIN_VALUE}) {
            Check.due("n " + n, x.fill(n, 0, 0), -2);
        }
        for (int bits : new int[] {-1, 8, 24, 32, Integer.MIN_VALUE, Integer.MAX_VALUE}) {
            Check.due("bits " + bits, x.fill(1, 0, bits), -2);
            Check.due("bits " + bits + " of none", x.fill(0, 0, bits), -2);
            Check.due("bits " + bits + " and no room", x.fill(7991, 0, bits), -2);
        }
        Check.due("one too many", x.fill(7991, 0, 0), -4);
        Check.due("far too many", x.fill(Integer.MAX_VALUE, 0, 0), -4);
        Check.due("size", x.size(), 10);
        Check.due("just room", x.fill(7990, 0, 0), 8000);
        Check.due("a full row", x.fill(1, 0, 0), -4);
    }

    private static void size() {
        Check.says("How many bytes THE ROW has.");
        TabledFrames x = new TabledFrames();
        Check.due("none", x.size(), 0);
        x.feed(0, 1);
        Check.due("one", x.size(), 1);
        x.fill(7999, 0, 0);
        Check.due("all", x.size(), 8000);
        x.cut(0);
        Check.due("none", x.size(), 0);
    }

    private static void set() {
        Check.says("Byte i of THE ROW becomes b: what it was. -2 there is none, or b is not 0 .. 255.");
        TabledFrames x = filled(8000);
        Check.due("the first becomes 255", x.set(0, 255) >= 0 ? x.set(0, 0) : -1, 255);
        Check.due("then 0", x.set(0, 128), 0);
        Check.due("then 128", x.set(0, 127), 128);
        Check.due("the last becomes 255", x.set(7999, 255) >= 0 ? x.set(7999, 1) : -1, 255);
        for (int i : new int[] {-1, 8000, Integer.MIN_VALUE, Integer.MAX_VALUE}) {
            Check.due("byte " + i, x.set(i, 1), -2);
        }
        for (int b : new int[] {-1, 256, Integer.MIN_VALUE, Integer.MAX_VALUE}) {
            Check.due("b " + b, x.set(0, b), -2);
        }
        Check.due("it is as it was", x.set(0, 0), 127);
        x.cut(5);
        Check.due("the last of five", x.set(4, 9) >= 0 ? 1 : 0, 1);
        Check.due("the sixth is cut off", x.set(5, 9), -2);
        Check.due("of an empty row", new TabledFrames().set(0, 0), -2);
    }

    private static void cut() {
        Check.says("THE ROW keeps its first n bytes: how many it had. -2 n is below 0, or more than it has.");
        TabledFrames x = Check.with(Make.bytes(5, 6, 7));
        for (int n : new int[] {-1, 4, Integer.MIN_VALUE, Integer.MAX_VALUE}) {
            Check.due("cut " + n, x.cut(n), -2);
        }
        row("nothing is cut", x, 5, 6, 7);
        Check.due("all are kept", x.cut(3), 3);
        row("all are kept", x, 5, 6, 7);
        Check.due("two are kept", x.cut(2), 3);
        row("two are kept", x, 5, 6);
        Check.due("three are more than it has now", x.cut(3), -2);
        Check.due("none is kept", x.cut(0), 2);
        Check.due("none of none", x.cut(0), 0);
        Check.due("one of none", x.cut(1), -2);
        x = filled(8000);
        Check.due("8001 of 8000", x.cut(8001), -2);
        Check.due("8000 of 8000", x.cut(8000), 8000);
    }

    private static void again() {
        Check.says("Bytes first .. first + n - 1 of THE ROW come behind it again: how many it has.");
        TabledFrames x = Check.with(Make.bytes(1, 2, 3));
        Check.due("the first", x.again(0, 1), 4);
        Check.due("the last", x.again(3, 1), 5);
        Check.due("all", x.again(0, 5), 10);
        row("again", x, 1, 2, 3, 1, 1, 1, 2, 3, 1, 1);
        Check.due("none", x.again(4, 0), 10);
        Check.due("none at the end", x.again(10, 0), 10);
        Check.due("none of none", new TabledFrames().again(0, 0), 0);
        x = filled(4000);
        Check.due("twice 4000", x.again(0, 4000), 8000);
        for (int i = 0; i < 4000; i++) {
            Check.due("byte " + i, x.set(i, 0), x.set(4000 + i, 0));
        }
    }

    private static void againRefuses() {
        Check.says("-2 they are not all there, -4.");
        TabledFrames x = Check.with(Make.bytes(1, 2, 3));
        int most = Integer.MAX_VALUE;
        int[][] calls = {{0, 4}, {1, 3}, {2, 2}, {3, 1}, {4, 1}, {-1, 1}, {-1, 2}, {0, -1}, {1, -1}, {3, -1}, {most, 1}, {1, most},
            {most, most}, {Integer.MIN_VALUE, 1}, {1, Integer.MIN_VALUE}, {Integer.MIN_VALUE, Integer.MIN_VALUE}, {-1, most}, {most, -1}};
        for (int[] c : calls) {
            Check.due("again(" + c[0] + ", " + c[1] + ")", x.again(c[0], c[1]), -2);
        }
        row("nothing came", x, 1, 2, 3);
        x = filled(5000);
        Check.due("8001", x.again(0, 3001), -4);
        Check.due("8001 from the end", x.again(1999, 3001), -4);
        Check.due("not all there comes first", x.again(2000, 3001), -2);
        Check.due("size", x.size(), 5000);
        Check.due("8000", x.again(2000, 3000), 8000);
        Check.due("one more", x.again(0, 1), -4);
        Check.due("none more", x.again(0, 0), 8000);
    }

    private static void swap() {
        Check.says("THE ROW and what came out change places: how many bytes THE ROW has then.");
        TabledFrames x = new TabledFrames();
        Check.due("nothing and nothing", x.swap(), 0);
        x = filled(8000);
        int first = x.set(0, 77);
        Check.due("a full row", x.swap(), 0);
        Check.due("came out", x.out(0), 77);
        Check.due("came out", x.out(7999) >= 0 ? 1 : 0, 1);
        Check.due("came out", x.out(8000), -2);
        x.feed(first, 1);
        Check.due("back", x.swap(), 8000);
        Check.due("came out", x.out(0), first);
        Check.due("came out", x.out(1), -2);
        row("a new row is its own", Check.with(Make.bytes(1)), 1);
        x = Check.with(Make.join(Make.head(0, 0), Make.block(true, 0, 2, Make.bytes(4, 5))));
        Check.due("open", x.open(1024), 2);
        Check.due("what was opened is the row", x.swap(), 2);
        row("what was opened is the row", x, 4, 5);
        Check.due("what was the row came out", x.out(10), 5);
        Check.due("what was the row came out", x.out(11), -2);
    }

    private static void differ() {
        Check.says("The first byte at which THE ROW and what came out differ (also where one ends); -3 they are the same.");
        TabledFrames x = new TabledFrames();
        Check.due("nothing and nothing", x.differ(), -3);
        x.feed(0, 1);
        Check.due("what came out ends at 0", x.differ(), 0);
        x.swap();
        Check.due("the row ends at 0", x.differ(), 0);
        x.feed(0, 1);
        Check.due("a byte 0 each", x.differ(), -3);
        x.feed(0, 1);
        Check.due("what came out ends at 1", x.differ(), 1);
        x.swap();
        Check.due("the row ends at 1", x.differ(), 1);
        x.feed(5, 1);
        Check.due("the last byte", x.differ(), 1);
        x.set(0, 255);
        Check.due("the first byte", x.differ(), 0);
        x = filled(8000);
        x.swap();
        x.fill(8000, 1, 0);
        Check.due("8000 each", x.differ(), -3);
        int b = x.set(7999, 0);
        x.set(7999, b ^ 1);
        Check.due("the last of 8000", x.differ(), 7999);
        x.cut(7999);
        Check.due("the row ends at 7999", x.differ(), 7999);
    }

    private static void out() {
        Check.says("Byte i of what came out; -2 there is none.");
        TabledFrames x = Check.with(Make.bytes(0, 127, 128, 255));
        x.swap();
        Check.cameOut("each", x, Make.bytes(0, 127, 128, 255));
        for (int i : new int[] {-1, 4, Integer.MIN_VALUE, Integer.MAX_VALUE}) {
            Check.due("out(" + i + ")", x.out(i), -2);
        }
        Check.due("of nothing", new TabledFrames().out(0), -2);
        x = filled(8000);
        x.swap();
        Check.due("the last of 8000", x.out(7999) >= 0 ? 1 : 0, 1);
        Check.due("behind 8000", x.out(8000), -2);
    }

    private static void sum() {
        Check.says("The lowest 32 bits of the SUM of THE ROW (high: the highest).");
        TabledFrames x = Check.with(Make.text("Nobody inspects the spammish repetition"));
        Check.due("low", x.sum(false), 0x8A378BF1);
        Check.due("high", x.sum(true), 0xFBCEA83C);
        Check.due("of nothing, low", new TabledFrames().sum(false), 0x51D8E999);
        Check.due("of nothing, high", new TabledFrames().sum(true), 0xEF46DB37);
        x.cut(0);
        x.feed('a', 1);
        Check.due("of one byte, low", x.sum(false), 0xA98C6E5B);
        Check.due("of one byte, high", x.sum(true), 0xD24EC4F1);
    }

    private static void sumOfFewAndMany() {
        Check.says("Of 32 bytes and more: a, b, c, d are A + B, B, 0, 0 - A; for each 32 bytes, as long as there are so many,");
        Check.says("Of fewer: h is E. Then h + n; of what is left, eight bytes as long as there are:");
        Check.says("four (as a number v): TURN(h ^ v A, 23) B + C; each one: TURN(h ^ v E, 11) A.");
        for (int n : new int[] {0, 1, 2, 3, 4, 5, 7, 8, 9, 11, 12, 13, 15, 16, 24, 28, 31, 32, 33, 36, 40, 44, 63, 64, 65, 95, 96, 7999, 8000}) {
            byte[] all = new byte[n];
            for (int i = 0; i < n; i++) {
                all[i] = (byte) (i * 37 + n);
            }
            TabledFrames x = Check.with(all);
            long want = RowTest.slowSum(all);
            Check.due("low of " + n, x.sum(false), (int) want);
            Check.due("high of " + n, x.sum(true), (int) (want >> 32));
        }
    }

    private static void sumWraps() {
        Check.says("THE SUM (64 bits that wrap, products too;");
        for (int b : new int[] {0, 127, 128, 255}) {
            for (int n : new int[] {1, 4, 8, 31, 32, 45, 77}) {
                long want = RowTest.slowSum(Make.same(b, n));
                TabledFrames x = Check.with(Make.same(b, n));
                Check.due("low of " + n + " times " + b, x.sum(false), (int) want);
                Check.due("high of " + n + " times " + b, x.sum(true), (int) (want >> 32));
            }
        }
    }
}

/** Promises 2 to 9, 14 and 15: the row, what came out, the sum. */
public final class RowTest {
    private RowTest() {
    }

    public static void main(String[] args) {
        feed();
        fill();
        setAndCut();
        again();
        swapAndDiffer();
        sum();
        Check.end();
    }

    private static void row(String what, TabledFrames x, int... want) {
        Check.due(what + ": size", x.size(), want.length);
        for (int i = 0; i < want.length; i++) {
            Check.due(what + ": byte " + i, x.set(i, want[i]), want[i]);
        }
    }

    private static void feed() {
        TabledFrames x = new TabledFrames();
        Check.due("feed 3", x.feed(0x11223344L, 3), 3);
        Check.due("feed 8", x.feed(0x8102030405060788L, 8), 11);
        row("feed", x, 0x22, 0x33, 0x44, 0x81, 2, 3, 4, 5, 6, 7, 0x88);
        Check.due("feed -1", x.feed(5, -1), -2);
        Check.due("feed 9", x.feed(5, 9), -2);
        Check.due("feed min", x.feed(5, Integer.MIN_VALUE), -2);
        Check.due("size", x.size(), 11);
        Check.due("feed 0 empties", x.feed(5, 0), 0);
        Check.due("size", x.size(), 0);
        Check.due("fill", x.fill(7993, 1, 0), 7993);
        Check.due("feed beyond", x.feed(5, 8), -4);
        Check.due("feed to the most", x.feed(5, 7), 8000);
        Check.due("feed beyond", x.feed(5, 1), -4);
        Check.due("feed 9 in a full row", x.feed(5, 9), -2);
        Check.due("feed 0 in a full row", x.feed(5, 0), 0);
    }

    private static void fill() {
        TabledFrames x = new TabledFrames();
        Check.due("fill 0", x.fill(0, 1, 0), 0);
        Check.due("fill", x.fill(5, -7, 0), 5);
        Check.due("fill", x.fill(5, -7, 4), 10);
        Check.due("fill", x.fill(5, -7, 7), 15);
        int z = -7;
        for (int i = 0; i < 5; i++) {
            z = z * 1664525 + 1013904223;
            int b = (int) ((z & 0xFFFFFFFFL) / (1 << 24));
            Check.due("byte", x.set(i, 0), b);
            Check.due("byte by 4", x.set(5 + i, 0), b / 16);
            Check.due("byte by 7", x.set(10 + i, 0), b / 128);
        }
        Check.due("n -1", x.fill(-1, 0, 0), -2);
        Check.due("bits -1", x.fill(1, 0, -1), -2);
        Check.due("bits 8", x.fill(1, 0, 8), -2);
        Check.due("no room", x.fill(7986, 0, 0), -4);
        Check.due("no room", x.fill(Integer.MAX_VALUE, 0, 0), -4);
        Check.due("outside first", x.fill(Integer.MAX_VALUE, 0, 8), -2);
        Check.due("just room", x.fill(7985, 0, 0), 8000);
        Check.due("none in a full row", x.fill(0, 0, 0), 8000);
    }

    private static void setAndCut() {
        TabledFrames x = Check.with(Make.bytes(1, 2, 200));
        Check.due("set", x.set(2, 255), 200);
        Check.due("set", x.set(2, 0), 255);
        Check.due("set 3", x.set(3, 0), -2);
        Check.due("set -1", x.set(-1, 0), -2);
        Check.due("set 256", x.set(0, 256), -2);
        Check.due("set below 0", x.set(0, -1), -2);
        row("set", x, 1, 2, 0);
        Check.due("cut 4", x.cut(4), -2);
        Check.due("cut -1", x.cut(-1), -2);
        Check.due("cut 3", x.cut(3), 3);
        Check.due("cut 1", x.cut(1), 3);
        row("cut", x, 1);
        Check.due("set behind a cut", x.set(1, 0), -2);
        Check.due("cut 0", x.cut(0), 1);
        Check.due("cut 0", x.cut(0), 0);
    }

    private static void again() {
        TabledFrames x = Check.with(Make.bytes(1, 2, 3));
        Check.due("again", x.again(1, 2), 5);
        Check.due("again", x.again(0, 5), 10);
        row("again", x, 1, 2, 3, 2, 3, 1, 2, 3, 2, 3);
        Check.due("none", x.again(0, 0), 10);
        Check.due("none at the end", x.again(10, 0), 10);
        Check.due("beyond", x.again(0, 11), -2);
        Check.due("beyond", x.again(10, 1), -2);
        Check.due("below", x.again(-1, 1), -2);
        Check.due("n below", x.again(1, -1), -2);
        Check.due("wide", x.again(5, Integer.MAX_VALUE), -2);
        Check.due("wide", x.again(Integer.MAX_VALUE, Integer.MAX_VALUE), -2);
        Check.due("fill", x.fill(5000, 1, 0), 5010);
        Check.due("no room", x.again(0, 2991), -4);
        Check.due("outside first", x.again(0, 5011), -2);
        Check.due("just room", x.again(0, 2990), 8000);
    }

    private static void swapAndDiffer() {
        TabledFrames x = Check.with(Make.bytes(1, 2, 3));
        Check.due("differ from nothing", x.differ(), 0);
        Check.due("swap", x.swap(), 0);
        Check.due("size", x.size(), 0);
        Check.cameOut("swapped", x, Make.bytes(1, 2, 3));
        Check.due("out -1", x.out(-1), -2);
        Check.due("differ from nothing", x.differ(), 0);
        Check.load(x, Make.bytes(1, 2));
        Check.due("the row ends", x.differ(), 2);
        Check.load(x, Make.bytes(1, 2, 3));
        Check.due("the same", x.differ(), -3);
        Check.load(x, Make.bytes(1, 2, 3, 0));
        Check.due("what came out ends", x.differ(), 3);
        Check.load(x, Make.bytes(1, 9, 3));
        Check.due("another byte", x.differ(), 1);
        Check.due("swap", x.swap(), 3);
        row("swapped back", x, 1, 2, 3);
        Check.cameOut("swapped back", x, Make.bytes(1, 9, 3));
        Check.load(x, Make.text("abcd"));
        x.swap();
        Check.load(x, Make.text("abcd"));
        x.cut(3);
        Check.due("a cut row ends", x.differ(), 3);
        x.swap();
        Check.due("what came out ends where it was cut", x.differ(), 3);
        Check.load(x, Make.bytes(1, 9, 3));
        x.swap();
        x.cut(0);
        Check.due("set does not touch what came out", x.out(1), 9);
    }

    private static void sum() {
        sumOf("", 0xEF46DB3751D8E999L);
        sumOf("a", 0xD24EC4F1A98C6E5BL);
        sumOf("abc", 0x44BC2CF5AD770999L);
        sumOf("Nobody inspects the spammish repetition", 0xFBCEA83C8A378BF1L);
        for (int n = 0; n < 150; n++) {
            TabledFrames x = new TabledFrames();
            x.fill(n, n, 0);
            byte[] all = new byte[n];
            for (int i = 0; i < n; i++) {
                int b = x.set(i, 0);
                x.set(i, b);
                all[i] = (byte) b;
            }
            sumOf(x, all, slowSum(all));
        }
    }

    private static void sumOf(String text, long want) {
        sumOf(Check.with(Make.text(text)), Make.text(text), want);
        Check.due("slow sum", slowSum(Make.text(text)), want);
    }

    private static void sumOf(TabledFrames x, byte[] all, long want) {
        Check.due("sum of " + all.length, x.sum(false), (int) want);
        Check.due("high sum of " + all.length, x.sum(true), (int) (want >>> 32));
    }

    static long slowSum(byte[] all) {
        long a = Long.parseUnsignedLong("11400714785074694791");
        long b = Long.parseUnsignedLong("14029467366897019727");
        long c = Long.parseUnsignedLong("1609587929392839161");
        long d = Long.parseUnsignedLong("9650029242287828579");
        long e = Long.parseUnsignedLong("2870177450012600261");
        int at = 0;
        long h = e;
        if (all.length >= 32) {
            long[] v = {a + b, b, 0, -a};
            for (; all.length - at >= 32; at += 32) {
                for (int i = 0; i < 4; i++) {
                    v[i] = Long.rotateLeft(v[i] + low(all, at + 8 * i, 8) * b, 31) * a;
                }
            }
            h = Long.rotateLeft(v[0], 1) + Long.rotateLeft(v[1], 7) + Long.rotateLeft(v[2], 12) + Long.rotateLeft(v[3], 18);
            for (long w : v) {
                h = (h ^ Long.rotateLeft(w * b, 31) * a) * a + d;
            }
        }
        h += all.length;
        for (; all.length - at >= 8; at += 8) {
            h = Long.rotateLeft(h ^ Long.rotateLeft(low(all, at, 8) * b, 31) * a, 27) * a + d;
        }
        if (all.length - at >= 4) {
            h = Long.rotateLeft(h ^ low(all, at, 4) * a, 23) * b + c;
            at += 4;
        }
        for (; at < all.length; at++) {
            h = Long.rotateLeft(h ^ low(all, at, 1) * e, 11) * a;
        }
        h = (h ^ h >>> 33) * b;
        h = (h ^ h >>> 29) * c;
        return h ^ h >>> 32;
    }

    private static long low(byte[] all, int at, int n) {
        long v = 0;
        for (int i = n - 1; i >= 0; i--) {
            v = v << 8 | all[at + i] & 255;
        }
        return v;
    }
}

/** Promises 11, 12 and 16 by section 1: heads, blocks, sums, frames that are passed over, faults 1 to 9. */
public final class FramesTest {
    private static final byte[] ABC = Make.text("abc");

    private FramesTest() {
    }

    public static void main(String[] args) {
        marks();
        passedOver();
        spans();
        numbers();
        sizes();
        blocks();
        tooMany();
        sizesAndSums();
        manySums();
        everyCut();
        whatStays();
        Check.end();
    }

    private static byte[] plainAbc() {
        return Make.block(true, 0, 3, ABC);
    }

    private static void marks() {
        TabledFrames x = Check.fine("an empty row", new byte[0], 0);
        Check.told("an empty row", x, 0, 0, 0, 0, 0, 0, 0, 0, 0, 0, 0, 0, 0);
        Check.due("open -1", x.open(-1), -2);
        Check.due("open min", x.open(Long.MIN_VALUE), -2);
        Check.fault("three bytes", Make.bytes(0x28, 0xB5, 0x2F), 1, 3);
        Check.fault("another mark", Make.bytes(0x28, 0xB5, 0x2F, 0xFC, 1, 2), 2, 0);
        byte[] good = Make.join(Make.head(0, 0), plainAbc());
        x = Check.fault("another mark behind a frame", Make.join(good, Make.bytes(1, 2, 3, 4)), 2, good.length);
        Check.told("another mark behind a frame", x, 0, 1, 1, 0, 0, 0, 3);
        Check.fault("a rest behind a frame", Make.join(good, Make.bytes(1, 2, 3)), 1, good.length + 3);
        x = Check.fine("two frames", Make.join(good, good), Make.text("abcabc"));
        Check.told("two frames", x, 0, 2, 2, 0, 0, 0, 6, 1, 4, 8, 1024, -1, 0);
        Check.fine("the kind's 16 counts nothing", Make.join(Make.head(16, 0), plainAbc()), ABC);
        Check.fault("the kind's 8", Make.head(8 | 32, 3), 3, 4);
        Check.fault("the kind's 8 at the end", Make.head(8), 3, 4);
        Check.fault("no kind", Make.head(), 1, 4);
    }

    private static void passedOver() {
        for (int i = -1; i <= 16; i++) {
            byte[] frame = Make.join(Make.number(407710288L + i, 4), Make.number(3, 4), ABC);
            if (i < 0 || i > 15) {
                Check.fault("no frame to pass over", frame, 2, 0);
            } else {
                TabledFrames x = Check.fine("passed over", frame, 0);
                Check.told("passed over", x, 0, 0, 0, 0, 0, 0, 0, 0, 0, 0, 0, 0, 1);
            }
        }
        byte[] mark = Make.number(407710290L, 4);
        Check.fault("a byte lacks", Make.join(mark, Make.number(4, 4), ABC), 1, 11);
        Check.fault("all lack", Make.join(mark, Make.number(0xFFFFFFFFL, 4), ABC), 1, 11);
        Check.fault("its number lacks", Make.join(mark, ABC), 1, 7);
        byte[] none = Make.join(mark, Make.number(0, 4));
        TabledFrames x = Check.fine("between", Make.join(none, Make.head(0, 0), plainAbc(), none), ABC);
        Check.told("between", x, 0, 1, 1, 0, 0, 0, 3, 1, 4, 8, 1024, -1, 2);
    }

    private static void spans() {
        long[] spans = {1024, 1152, 1280, 1408, 1536, 1664, 1792, 1920, 2048, 2304};
        for (int b = 0; b < spans.length; b++) {
            byte[] frame = Make.join(Make.head(0, b), plainAbc());
            Check.due("span " + b, Check.with(frame).open(spans[b]), 3);
            Check.due("told span " + b, Check.fine("span", frame, 3).told(9), spans[b]);
            Check.fault("span less 1", Check.with(frame), spans[b] - 1, 4, 5);
        }
        byte[] widest = Make.join(Make.head(0, 255), plainAbc());
        long span = (1L << 41) + 7 * (1L << 38);
        Check.due("widest", Check.with(widest).open(span), 3);
        Check.due("widest told", Check.fine("widest", widest, 3).told(9), 0);
        Check.fault("widest less 1", Check.with(widest), span - 1, 4, 5);
        Check.due("31 bits", Check.fine("2^31", Make.join(Make.head(0, 169), plainAbc()), 3).told(9), 1 << 28);
        Check.fault("no span's byte", Make.head(0), 1, 5);
        Check.fault("a span at the end", Check.with(Make.head(0, 0)), 1023, 4, 5);
        Check.fault("a size at the end", Check.with(Make.head(32, 9)), 8, 4, 5);
        Check.fault("a number at the end", Check.with(Make.head(1, 0, 9)), 1024, 5, 6);
        TabledFrames x = Check.fault("a fault's head is not told", Check.with(widest), 0, 4, 5);
        Check.told("a fault's head is not told", x, 0, 0, 0, 0, 0, 0, 0, 0, 0, 0, 0, 0, 0);
    }

    private static void numbers() {
        Check.fine("0 in a byte", Make.join(Make.head(1, 0, 0), plainAbc()), ABC);
        Check.fine("0 in two", Make.join(Make.head(2, 0, 0, 0), plainAbc()), ABC);
        Check.fine("0 in four", Make.join(Make.head(3, 0, 0, 0, 0, 0), plainAbc()), ABC);
        Check.fault("1 in a byte", Make.head(1, 0, 1), 5, 6);
        Check.fault("256 in two", Make.head(2, 0, 0, 1), 5, 6);
        Check.fault("2^24 in four", Make.head(3, 0, 0, 0, 0, 1), 5, 6);
        Check.fault("lacking bytes first", Make.head(3, 0, 0, 0, 1), 1, 9);
        Check.fault("the span before the number", Check.with(Make.head(1, 255, 1)), 5000, 4, 5);
        Check.fault("the number before the size", Check.with(Make.head(33, 1, 200)), 5, 5, 5);
        Check.fault("the number before a size that lacks", Make.head(33, 1), 5, 5);
    }

    private static void sizes() {
        TabledFrames x = Check.fine("one, a byte", Make.join(Make.head(32, 3), plainAbc()), ABC);
        Check.told("one, a byte", x, 9, 3, 3);
        byte[] two = Make.join(Make.head(32 | 64, 4, 0), Make.block(true, 1, 260, Make.bytes(7)));
        x = Check.fine("one, N2", two, Make.same(7, 260));
        Check.told("one, N2", x, 9, 260, 260);
        x = Check.fine("one, N4", Make.join(Make.head(32 | 128, 3, 0, 0, 0), plainAbc()), ABC);
        Check.told("one, N4", x, 9, 3, 3);
        x = Check.fine("one, eight", Make.join(Make.head(32 | 192, 3, 0, 0, 0, 0, 0, 0, 0), plainAbc()), ABC);
        Check.told("one, eight", x, 9, 3, 3);
        x = Check.fine("N4", Make.join(Make.head(128, 0, 3, 0, 0, 0), plainAbc()), ABC);
        Check.told("N4", x, 9, 1024, 3);
        Check.fault("a size above the most", Check.with(Make.head(32, 11)), 10, 4, 5);
        Check.due("a size that is the most", Check.with(Make.join(Make.head(32, 3), plainAbc())).open(3), 3);
        Check.due("a size of 0", Check.with(Make.join(Make.head(32, 0), Make.block(true, 0, 0))).open(0), 0);
        Check.fault("a size without a sign", Make.head(32 | 192, 0, 0, 0, 0, 0, 0, 0, 128), 4, 5);
        Check.fault("a size behind a number", Check.with(Make.head(33, 0, 9)), 8, 4, 6);
        Check.fault("a size lacks", Make.head(32), 1, 5);
        Check.fault("half a size lacks", Make.head(192, 0, 1, 2, 3), 1, 9);
        byte[] large = Make.join(Make.head(192, 0), Make.number(0x1_2345_6789_ABCDL | 1L << 63, 8), plainAbc());
        x = Check.fault("another size", large, 8, 6);
        Check.told("31 bits of a size", x, 9, 1024, 0x6789ABCD & Integer.MAX_VALUE);
    }

    private static void blocks() {
        Check.fine("none of kind 0", Make.join(Make.head(0, 0), Make.block(true, 0, 0)), 0);
        byte[] three = Make.join(Make.head(0, 0), Make.block(false, 0, 3, ABC), Make.block(false, 1, 4, Make.bytes(9)),
            Make.block(true, 0, 1, Make.bytes(255)));
        TabledFrames x = Check.fine("three blocks", three, Make.bytes('a', 'b', 'c', 9, 9, 9, 9, 255));
        Check.told("three blocks", x, 0, 1, 3, 0, 0, 0, 8);
        x = Check.fault("kind 3", Make.join(Make.head(0, 0), Make.block(false, 0, 3, ABC), Make.block(true, 3, 0)), 6, 12);
        Check.told("kind 3", x, 0, 1, 2, 0, 0, 0, 3);
        for (int kind = 0; kind < 3; kind++) {
            Check.fault("above the span", Make.join(Make.head(32, 3), Make.block(true, kind, 4)), 6, 6);
            Check.fault("above 1024", Make.join(Make.head(0, 0), Make.block(true, kind, 1025)), 6, 6);
            Check.fault("above 131072", Make.join(Make.head(0, 0x60), Make.block(true, kind, 131073)), 6, 6);
        }
        Check.fault("131072 lack", Make.join(Make.head(0, 0x60), Make.block(true, 0, 131072)), 1, 9);
        Check.fault("131072 packed lack", Make.join(Make.head(0, 0x60), Make.block(true, 2, 131072)), 1, 9);
        Check.fault("the one byte lacks", Make.join(Make.head(0, 0), Make.block(true, 1, 4)), 1, 9);
        x = Check.fault("no N3", Make.join(Make.head(0, 0), Make.bytes(0, 0)), 1, 8);
        Check.told("no N3", x, 0, 1, 0);
        Check.fine("one of size 0", Make.join(Make.head(32, 0), Make.block(true, 0, 0)), 0);
        Check.fault("one of size 0, a byte", Make.join(Make.head(32, 0), Make.block(true, 0, 1, ABC)), 6, 6);
    }

    private static void tooMany() {
        byte[] most = Make.join(Make.wide(), Make.block(true, 1, 8000, Make.bytes(5)));
        Check.fine("8000", most, 8000);
        Check.fault("8001", Make.join(Make.wide(), Make.block(true, 1, 8001, Make.bytes(5))), 7, 6);
        Check.fault("131072", Make.join(Make.head(0, 0x60), Make.block(true, 1, 131072, Make.bytes(5))), 7, 6);
        byte[] more = Make.join(Make.wide(), Make.block(false, 1, 7999, Make.bytes(5)), Make.block(true, 0, 2, Make.bytes(1, 2)));
        TabledFrames x = Check.fault("two more by plain bytes", more, 7, 10);
        Check.told("two more", x, 0, 1, 2, 0, 0, 0, 7999);
        Check.fault("1, but it lacks", Make.first(more, more.length - 1), 1, more.length - 1);
        x = Check.fault("of all frames", Make.join(most, Make.head(0, 0), Make.block(true, 0, 1, Make.bytes(1))), 7, most.length + 6);
        Check.told("of all frames", x, 0, 2, 2, 0, 0, 0, 8000);
        Check.fine("nothing more", Make.join(most, Make.head(0, 0), Make.block(true, 0, 0)), 8000);
        x = Check.fault("9000 packed letters", Make.one(Make.allOf(1, 9000), Make.bytes(0)), 7, 6);
        Check.told("9000 packed letters", x, 0, 1, 1, 0, 9000, 0, 0);
        Check.fault("a packed one is judged first", Make.one(Make.allOf(1, 9000), Make.bytes(0, 1)), 14, 13);
    }

    private static void sizesAndSums() {
        TabledFrames x = Check.fault("less than its size", Make.join(Make.head(32, 4), plainAbc()), 8, 5);
        Check.told("less than its size", x, 0, 1, 1, 0, 0, 0, 3);
        Check.fault("more than its size", Make.join(Make.head(128, 0, 2, 0, 0, 0), plainAbc()), 8, 6);
        Check.fault("size before the sum is read", Make.join(Make.head(32 | 4, 4), plainAbc()), 8, 5);
        byte[] sum = Make.number(0xAD770999L, 4);
        byte[] frame = Make.join(Make.head(32 | 4, 3), plainAbc());
        Check.fine("a sum", Make.join(frame, sum), ABC);
        sum[3] ^= 1;
        Check.fault("another sum", Make.join(frame, sum), 9, frame.length);
        Check.fault("no sum", Make.join(frame, Make.first(sum, 3)), 1, frame.length + 3);
        byte[] empty = Make.join(Make.head(4, 0), Make.block(true, 0, 0), Make.number(0x51D8E999L, 4));
        Check.fine("the sum of nothing", empty, 0);
        sum[3] ^= 1;
        Check.fine("of this frame alone", Make.join(frame, sum, empty, frame, sum), Make.text("abcabc"));
    }

    /** Frames of many sizes one behind another, each with the sum of its own bytes. */
    private static void manySums() {
        for (int first = 0; first < 100; first += 7) {
            for (int second = 20; second < 120; second += 9) {
                byte[] a = bytesOf(first);
                byte[] b = bytesOf(second);
                Check.fine("sums of " + first + " and " + second, Make.join(summed(a), summed(b), summed(a)), Make.join(a, b, a));
            }
        }
    }

    private static byte[] bytesOf(int n) {
        byte[] all = new byte[n];
        for (int i = 0; i < n; i++) {
            all[i] = (byte) (i * i + n);
        }
        return all;
    }

    private static byte[] summed(byte[] bytes) {
        return Make.join(Make.head(32 | 4, bytes.length), Make.block(true, 0, bytes.length, bytes), Make.number(RowTest.slowSum(bytes), 4));
    }

    /** Every beginning of a good frame lacks bytes. */
    private static void everyCut() {
        byte[] frame = Make.join(Make.number(407710288L, 4), Make.number(2, 4), Make.bytes(1, 2),
            Make.head(4 | 3 | 128, 0, 0, 0, 0, 0, 7, 0, 0, 0), Make.block(false, 1, 4, Make.bytes('x')),
            Make.packed(false, Make.plain(Make.text("y")), Make.bytes(0)), Make.block(true, 0, 2, Make.text("zz")),
            Make.number(RowTest.slowSum(Make.text("xxxxyzz")), 4));
        Check.fine("whole", frame, Make.text("xxxxyzz"));
        for (int n = 1; n < frame.length; n++) {
            if (n != 10) {
                Check.fault("cut to " + n, Make.first(frame, n), 1, n);
            }
        }
    }

    private static void whatStays() {
        byte[] good = Make.join(Make.head(0, 0), plainAbc());
        TabledFrames x = Check.fine("good", good, ABC);
        Check.load(x, Make.join(good, Make.bytes(1, 2, 3, 4)));
        Check.fault("then bad", x, 5000, 2, good.length);
        Check.cameOut("what came out stays", x, ABC);
        Check.due("the row stays", x.size(), good.length + 4);
        Check.due("open below 0", x.open(-1), -2);
        Check.due("leaves the place", x.place(), good.length);
        Check.told("and what was told", x, 0, 1, 1);
        Check.due("pack", x.pack(0, 0) > 0 ? 1 : 0, 1);
        Check.due("leaves the place too", x.place(), good.length);
        Check.told("and what was told too", x, 0, 1, 1);
        x.cut(good.length);
        Check.due("then good", x.open(5000), 3);
        Check.due("no place", x.place(), -1);
        x.cut(0);
        Check.due("then nothing", x.open(0), 0);
        Check.told("all is told anew", x, 0, 0, 0, 0, 0, 0, 0, 0, 0, 0, 0, 0, 0);
    }
}

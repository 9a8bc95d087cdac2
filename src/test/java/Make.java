import java.io.ByteArrayOutputStream;
import java.util.ArrayList;
import java.util.List;

/** Frames written by hand, part by part; knows the document and nothing of the class. */
final class Make {
    private Make() {
    }

    static byte[] bytes(int... values) {
        byte[] all = new byte[values.length];
        for (int i = 0; i < all.length; i++) {
            all[i] = (byte) values[i];
        }
        return all;
    }

    static byte[] text(String s) {
        byte[] all = new byte[s.length()];
        for (int i = 0; i < all.length; i++) {
            all[i] = (byte) s.charAt(i);
        }
        return all;
    }

    static byte[] join(byte[]... parts) {
        ByteArrayOutputStream all = new ByteArrayOutputStream();
        for (byte[] part : parts) {
            all.write(part, 0, part.length);
        }
        return all.toByteArray();
    }

    static byte[] same(int b, int n) {
        byte[] all = new byte[n];
        java.util.Arrays.fill(all, (byte) b);
        return all;
    }

    static byte[] first(byte[] bytes, int n) {
        return java.util.Arrays.copyOf(bytes, n);
    }

    /** Lowest byte first. */
    static byte[] number(long v, int n) {
        byte[] all = new byte[n];
        for (int i = 0; i < n; i++) {
            all[i] = (byte) (v >>> (8 * i));
        }
        return all;
    }

    /** A FRAME's N4, the KIND and what is behind it in the head. */
    static byte[] head(int... kindAndMore) {
        return join(number(4247762216L, 4), bytes(kindAndMore));
    }

    /** A head of six bytes with a SPAN of 131072 and nothing else. */
    static byte[] wide() {
        return head(0, 0x38);
    }

    static byte[] block(boolean last, int kind, int n, byte[]... content) {
        return join(number((last ? 1 : 0) | kind << 1 | n << 3, 3), join(content));
    }

    static byte[] packed(boolean last, byte[]... content) {
        byte[] all = join(content);
        return block(last, 2, all.length, all);
    }

    /** A whole FRAME of one PACKED block; its content begins at byte 9. */
    static byte[] one(byte[]... content) {
        return join(wide(), packed(true, content));
    }

    /** LETTERS of kind 0, in the form of three bytes. */
    static byte[] plain(byte[] letters) {
        return join(number(12L | (long) letters.length << 4, 3), letters);
    }

    /** LETTERS of kind 1, in the form of three bytes. */
    static byte[] allOf(int letter, int n) {
        return join(number(13L | (long) n << 4, 3), bytes(letter));
    }

    /** LETTERS of kind 2 or 3 by one STREAM. */
    static byte[] coded(int kind, int size, byte[]... follow) {
        byte[] all = join(follow);
        return join(number(kind | (long) size << 4 | (long) all.length << 14, 3), all);
    }

    /** The same by four STREAMS. */
    static byte[] codedFour(int kind, int size, byte[]... follow) {
        byte[] all = join(follow);
        return join(number(kind | 4 | (long) size << 4 | (long) all.length << 14, 3), all);
    }

    /** Fields as they are to be read: value, width, value, width, .. */
    static byte[] reversed(long... fields) {
        List<Integer> bits = new ArrayList<>();
        for (int f = 0; f < fields.length; f += 2) {
            for (int i = (int) fields[f + 1] - 1; i >= 0; i--) {
                bits.add((int) (fields[f] >>> i & 1));
            }
        }
        int n = bits.size();
        byte[] all = new byte[n / 8 + 1];
        all[n / 8] |= (byte) (1 << n % 8);
        for (int i = 0; i < n; i++) {
            int at = n - 1 - i;
            all[at / 8] |= (byte) (bits.get(i) << at % 8);
        }
        return all;
    }

    /** A word of 0s and 1s, as it is to be read. */
    static byte[] reversedText(String bits) {
        long[] fields = new long[2 * bits.length()];
        for (int i = 0; i < bits.length(); i++) {
            fields[2 * i] = bits.charAt(i) - '0';
            fields[2 * i + 1] = 1;
        }
        return reversed(fields);
    }

    /** COUNTS as they are told. */
    static byte[] counts(int l, int... counts) {
        StringBuilder bits = new StringBuilder();
        low(bits, l - 5, 4);
        int left = 1 << l;
        for (int s = 0; s < counts.length; s++) {
            int m = 32 - Integer.numberOfLeadingZeros(left + 1);
            int few = (1 << m) - 2 - left;
            int v = counts[s] + 1;
            if (v < few) {
                low(bits, v, m - 1);
            } else if (v < 1 << (m - 1)) {
                low(bits, v, m);
            } else {
                low(bits, v + few, m);
            }
            left -= Math.abs(counts[s]);
            if (counts[s] == 0) {
                int more = 0;
                for (; s + 1 < counts.length && counts[s + 1] == 0; s++) {
                    more++;
                }
                for (; more >= 3; more -= 3) {
                    low(bits, 3, 2);
                }
                low(bits, more, 2);
            }
        }
        byte[] all = new byte[(bits.length() + 7) / 8];
        for (int i = 0; i < bits.length(); i++) {
            all[i / 8] |= (byte) (bits.charAt(i) - '0' << i % 8);
        }
        return all;
    }

    private static void low(StringBuilder bits, int v, int n) {
        for (int i = 0; i < n; i++) {
            bits.append(v >> i & 1);
        }
    }

    /** SEQUENCES whose three symbols are always the same, so that their row has but the bits behind symbols. */
    static byte[] onlySymbols(int n, int letters, int offset, int copy, byte[] row) {
        byte[] howMany = n < 128 ? bytes(n) : n < 32512 ? bytes(128 + (n >> 8), n) : join(bytes(255), number(n - 32512, 2));
        return join(howMany, bytes(0x54, letters, offset, copy), row);
    }
}

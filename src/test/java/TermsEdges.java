import java.util.List;

/** Terms: how numbers and bits come, and how long an object is used. */
final class TermsEdges {
    private TermsEdges() {
    }

    static void all() {
        numbers();
        bits();
        reversedNumbers();
        calls();
    }

    private static void numbers() {
        Check.says("Numbers in frames have their lowest byte first: N2, N3, N4 are of so many bytes.");
        byte[] two = Make.join(Make.head(96, 0x34, 0x12), Make.block(true, 1, 0x1334, Make.bytes(1)));
        Check.told("N2", Check.fine("N2", two, 0x1334), 9, 0x1334, 0x1334);
        byte[] three = Make.join(Make.wide(), Make.bytes(0x23, 0x81, 0, 7));
        Check.fine("N3", three, 0x8123 >> 3);
        byte[] four = Make.join(Make.head(128, 0, 0x78, 0x56, 0x34, 0x12), Make.block(true, 0, 0));
        Check.due("N4", Check.fault("N4", four, 8, 6).told(10), 0x12345678);
        byte[] eight = Make.join(Make.head(192, 0, 0x78, 0x56, 0x34, 0x12, 9, 9, 9, 9), Make.block(true, 0, 0));
        Check.due("eight bytes", Check.fault("eight bytes", eight, 8, 6).told(10), 0x12345678);
        TabledFrames x = Check.with(Make.join(Make.number(407710288L, 4), Make.bytes(0, 1, 0, 0), new byte[256]));
        Check.due("N4 of bytes that are passed over", x.open(0), 0);
        Check.due("the same in two and in three bytes", Check.fine("N2 / 16", Make.one(Make.bytes(0x14, 0x10), new byte[0x101], Make.bytes(0)), 0x101).told(3), 0x101);
    }

    private static void bits() {
        Check.says("BITS of bytes: the lowest first; a number of n bits comes lowest bit first.");
        // four bits 1: l is 6; six bits 25: a COUNT of 24; then six bits of 1: all 40 that are left
        byte[] told = Make.bytes(0x91, 0xFD);
        TabledFrames x = Check.fault("counts by hand", Make.one(Make.bytes(0, 1, 0x80), told), 17, 9 + 3 + 2);
        Check.due("l", x.table(0, -1, 0), 6);
        new States(6, 24, 40).compare("counts by hand", x, 0);
    }

    private static void reversedNumbers() {
        Check.says("a number of n bits comes highest bit first.");
        // below the mark: VALUE 1101, COPY 1 and LETTERS 10
        byte[] row = Make.bytes(0b11101110);
        TabledFrames x = Check.fine("by hand", Make.one(Make.allOf('h', 30), Make.onlySymbols(1, 20, 4, 32, row)), 30 + 36);
        Check.sequence("by hand", x, 0, 26, 36, 16 + 13, 26);
        byte[] across = Make.bytes(0b01101010, 0b10);
        x = Check.fine("across bytes", Make.one(Make.allOf('h', 110), Make.onlySymbols(1, 25, 2, 32, across)), 110 + 36);
        Check.sequence("across bytes", x, 0, 64 + 0b101010, 36, 4, 1);
    }

    /** The dearest calls, 512 of them, and the last ones are as the first. */
    private static void calls() {
        Check.says("An object is used for at most 512 calls after it has been made;");
        TabledFrames x = new TabledFrames();
        x.fill(3000, 7, 0);
        Check.due("keep", x.keep(), 0);
        x.again(0, 3000);
        int first = x.pack(2, 7);
        for (int call = 4; call < 509; call += 2) {
            x.pack(call % 3, call % 8);
            x.differ();
        }
        Check.due("pack", x.pack(2, 7), first);
        Check.due("swap", x.swap(), first);
        Check.due("open", x.open(8000), 6000);
        List<Integer> told = List.of(1, 3, 3);
        for (int i = 0; i < told.size(); i++) {
            Check.due("told " + i, x.told(i), told.get(i));
        }
    }
}

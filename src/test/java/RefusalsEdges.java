import java.util.ArrayList;
import java.util.List;
import java.util.function.ToIntFunction;

/** The line on ANSWERS below 0, promises 10 to 13: what a refused call changes, which refusal is told, and place(). */
final class RefusalsEdges {
    private static final byte[] CONTENT = Make.text("the content that stands before");
    private static final byte[] DICTIONARY = DictionaryTest.dictionary(77, new int[] {3, 7, 30}, CONTENT);
    private static final byte[] FRAME = Make.join(Make.head(1, 0x38, 77),
        Make.packed(false, Make.coded(3, 3, Make.reversedText("1001" + "01")), Make.bytes(0)),
        Make.packed(true, Make.plain(Make.text("abcd")), Make.onlySymbols(1, 4, 3, 2, Make.reversed(0, 3))));

    private RefusalsEdges() {
    }

    static void all() {
        nothingChanges();
        faultsOfKeep();
        faultsOfOpen();
        firstThatFits();
        keep();
        keepEmpty();
        keepNumbers();
        keepRefuses();
        open();
        openLeaves();
        place();
        packAnswers();
        packRefuses();
        packLeaves();
    }

    /** A dictionary is kept, bytes came out, a fault has its place and much is told, and the row is one that nothing takes. */
    private static TabledFrames busy() {
        TabledFrames x = Check.with(DICTIONARY);
        Check.due("keep", x.keep(), 77);
        Check.load(x, FRAME);
        Check.due("open", x.open(131072), 12);
        Check.load(x, Make.join(FRAME, Make.bytes(1, 2, 3, 4)));
        Check.due("open", x.open(131072), -12);
        Check.due("place", x.place(), FRAME.length);
        return x;
    }

    /** All that can be asked without a change. */
    private static List<Integer> seen(TabledFrames x) {
        List<Integer> all = seenOfRows(x);
        all.addAll(seenOfOpen(x));
        return all;
    }

    private static List<Integer> seenOfRows(TabledFrames x) {
        List<Integer> all = new ArrayList<>();
        all.add(x.size());
        for (int i = 0; i < x.size(); i++) {
            int b = x.set(i, 0);
            x.set(i, b);
            all.add(b);
        }
        for (int i = 0; x.out(i) >= 0; i++) {
            all.add(x.out(i));
        }
        return all;
    }

    private static List<Integer> seenOfOpen(TabledFrames x) {
        List<Integer> all = new ArrayList<>();
        all.add(x.place());
        for (int what = 0; what < 12; what++) {
            all.add(x.told(what));
        }
        for (int i = 0; i < 3; i++) {
            for (int what = 0; what < 4; what++) {
                all.add(x.sequence(i, what));
            }
            for (int k = -1; k < 65; k++) {
                for (int what = 0; what < 3; what++) {
                    all.add(x.table(i, k, what));
                }
            }
        }
        for (int s = 0; s < 256; s++) {
            all.add(x.bits(s));
        }
        return all;
    }

    private static void same(String what, List<Integer> is, List<Integer> was) {
        Check.due(what + ": as many", is.size(), was.size());
        for (int i = 0; i < is.size() && i < was.size(); i++) {
            Check.due(what + ": answer " + i, is.get(i), was.get(i));
        }
    }

    /** The dictionary is the one of busy(). */
    private static void keeps(String what, TabledFrames x) {
        Check.load(x, CONTENT);
        Check.due(what + ": pack", x.pack(1, 4), 4 + 3 + 3 + 6);
        x.swap();
        Check.due(what + ": open", x.open(131072), CONTENT.length);
        Check.due(what + ": by the third remembered", x.told(6), 30);
        Check.cameOut(what, x, CONTENT);
    }

    private static void refused(String what, int want, ToIntFunction<TabledFrames> call) {
        refused(what, want, busy(), call);
    }

    private static void refused(String what, int want, TabledFrames x, ToIntFunction<TabledFrames> call) {
        List<Integer> before = seen(x);
        Check.due(what, call.applyAsInt(x), want);
        same(what, seen(x), before);
        keeps(what, x);
    }

    private static TabledFrames busyAndFull() {
        TabledFrames x = busy();
        x.fill(8000 - x.size(), 5, 0);
        return x;
    }

    private static void nothingChanges() {
        Check.says("ANSWERS below 0 are refusals and change nothing: -2 a number outside its range, -3 not in this state, -4 no room;");
        int n = busy().size();
        refused("feed -1", -2, x -> x.feed(1, -1));
        refused("feed 9", -2, x -> x.feed(1, 9));
        refused("feed beyond", -4, busyAndFull(), x -> x.feed(1, 1));
        refused("fill -1", -2, x -> x.fill(-1, 1, 0));
        refused("fill by 8 bits", -2, x -> x.fill(1, 1, 8));
        refused("fill by -1 bits", -2, x -> x.fill(1, 1, -1));
        refused("fill beyond", -4, x -> x.fill(8001 - n, 1, 0));
        refused("set -1", -2, x -> x.set(-1, 1));
        refused("set behind", -2, x -> x.set(n, 1));
        refused("set to -1", -2, x -> x.set(0, -1));
        refused("set to 256", -2, x -> x.set(0, 256));
        refused("cut -1", -2, x -> x.cut(-1));
        refused("cut behind", -2, x -> x.cut(n + 1));
        refused("again -1", -2, x -> x.again(-1, 1));
        refused("again behind", -2, x -> x.again(1, n));
        refused("again beyond", -4, busyAndFull(), x -> x.again(0, 1));
        refused("open -1", -2, x -> x.open(-1));
        refused("pack 3", -2, x -> x.pack(3, 0));
        refused("pack -1", -2, x -> x.pack(-1, 0));
        refused("pack by marks -1", -2, x -> x.pack(0, -1));
        refused("pack by marks 8", -2, x -> x.pack(0, 8));
        refused("pack beyond", -4, busyAndFull(), x -> x.pack(0, 4));
        refused("keep beyond", -4, busyAndFull(), x -> x.keep());
        refused("out -1", -2, x -> x.out(-1));
        refused("told 12", -2, x -> x.told(12));
        refused("sequence 1", -2, x -> x.sequence(1, 0));
        refused("table of kind 3", -2, x -> x.table(3, 0, 0));
        refused("bits of 256", -2, x -> x.bits(256));
        TabledFrames none = new TabledFrames();
        List<Integer> before = seen(none);
        Check.due("pack without a dictionary", none.pack(0, 4), -3);
        Check.due("differ", none.differ(), -3);
        Check.due("table", none.table(0, 0, 0), -3);
        Check.due("bits", none.bits(0), -3);
        same("not in this state", seen(none), before);
    }

    private static void faultsOfKeep() {
        Check.says("-10 less a FAULT.");
        TabledFrames x = busy();
        Check.load(x, Make.first(DICTIONARY, DICTIONARY.length - 1));
        List<Integer> rows = seenOfRows(x);
        List<Integer> opened = seenOfOpen(x);
        Check.due("a dictionary whose third remembered is above its content", x.keep(), -31);
        same("the row, and what came out", seenOfRows(x), rows);
        opened.set(0, 0);
        same("but for its place nothing of the open() before", seenOfOpen(x), opened);
        keeps("nor the dictionary", x);
    }

    private static void faultsOfOpen() {
        Check.says("-10 less a FAULT (what came out before stays, told() and the like tell of this one as far as it came).");
        TabledFrames x = busy();
        Check.load(x, Make.join(Make.head(1, 0x38, 77), Make.block(false, 0, 3, Make.text("xyz")), Make.block(true, 3, 0)));
        List<Integer> rows = seenOfRows(x);
        Check.fault("kind 3", x, 131072, 6, 7 + 6);
        same("the row, and what came out", seenOfRows(x), rows);
        Check.told("as far as it came", x, 0, 1, 2, 0, 0, 0, 3, 3, 7, 30, 131072, -1, 0);
        Check.due("no sequence of the open() before", x.sequence(0, 0), -2);
        Check.due("the dictionary's code", x.bits(4), 4);
        Check.due("the dictionary's letters, not those of the open() before", x.table(0, -1, 0), 6);
        keeps("the dictionary", x);
    }

    /** Of those which a call can have at once. */
    private static void firstThatFits() {
        Check.says("-2 a number outside its range, -3 not in this state, -4 no room; the first that fits;");
        TabledFrames full = new TabledFrames();
        full.fill(8000, 1, 0);
        Check.due("feed -2 before -4", full.feed(1, 9), -2);
        Check.due("fill -2 before -4", full.fill(1, 1, 8), -2);
        Check.due("fill -2 before -4", full.fill(Integer.MAX_VALUE, 1, -1), -2);
        Check.due("again -2 before -4", full.again(1, 8000), -2);
        Check.due("pack -2 before -3 and -4", full.pack(3, 4), -2);
        Check.due("pack -2 before -3 and -4", full.pack(0, 12), -2);
        Check.due("pack -3 before -4", full.pack(0, 4), -3);
        Check.due("pack -4", full.pack(0, 3), -4);
        Check.due("table -2 of a kind before -3", full.table(3, 0, 0), -2);
        Check.due("table -2 of a what before -3", full.table(0, 0, 3), -2);
        Check.due("table -3 before -2 of a place", full.table(0, 9999, 0), -3);
        Check.due("table -3 before -2 of a place", full.table(0, -2, 0), -3);
        Check.due("bits -2 before -3", full.bits(256), -2);
        Check.due("open -2 before a fault", full.open(-1), -2);
    }

    private static void keep() {
        Check.says("THE ROW (which stays) is the dictionary from now on;");
        TabledFrames x = Check.with(Make.text("0123456789"));
        Check.due("keep", x.keep(), 0);
        CallsEdges.row("the row stays", x, '0', '1', '2', '3', '4', '5', '6', '7', '8', '9');
        x.set(0, 'x');
        x.cut(1);
        Check.load(x, Make.text("0123456789"));
        Check.due("pack", x.pack(1, 4), 6 + 3 + 6);
        x.swap();
        Check.due("it is as it was kept", x.open(1024), 10);
        Check.cameOut("it is as it was kept", x, Make.text("0123456789"));
        Check.load(x, Make.text("another"));
        Check.due("another one", x.keep(), 0);
        x.swap();
        Check.due("pack", x.pack(1, 4), 6 + 3 + 10);
    }

    private static void keepEmpty() {
        Check.says("an empty one: there is none.");
        TabledFrames x = new TabledFrames();
        Check.due("none", x.keep(), 0);
        Check.due("none is kept", x.pack(0, 4), -3);
        x.feed('a', 1);
        Check.due("of one byte", x.keep(), 0);
        Check.due("one is kept", x.pack(0, 4), 6 + 3 + 1);
        x.cut(0);
        Check.due("one is kept", x.pack(0, 4), 6 + 3);
        Check.due("none", x.keep(), 0);
        Check.due("none is kept any more", x.pack(0, 4), -3);
    }

    private static void keepNumbers() {
        Check.says("Its number, as 32 bits.");
        for (int number : new int[] {1, 255, 256, 65535, 65536, Integer.MAX_VALUE, Integer.MIN_VALUE, -1, -2, -4, -31}) {
            TabledFrames x = Check.with(DictionaryTest.dictionary(number, new int[] {1, 1, 1}, CONTENT));
            Check.due("number " + number, x.keep(), number);
            Check.due("number " + number + ": place", x.place(), -1);
            Check.load(x, Make.join(Make.head(3, 0), Make.number(number, 4), Make.block(true, 0, 0)));
            Check.due("number " + number + " is told", x.open(1024), 0);
            Check.told("number " + number + " is told", x, 6, 1, 1, 1);
        }
    }

    private static void keepRefuses() {
        Check.says("-10 less FAULT 21, -4 more than 3000 bytes.");
        TabledFrames x = new TabledFrames();
        x.fill(3001, 3, 0);
        Check.due("3001", x.keep(), -4);
        Check.due("it is not kept", x.cut(10) >= 0 ? x.pack(0, 4) : 0, -3);
        x.fill(2990, 3, 0);
        Check.due("3000", x.keep(), 0);
        Check.due("it is kept", x.cut(10) >= 0 ? x.pack(0, 4) : 0, 19);
        x.fill(7990, 3, 0);
        Check.due("8000", x.keep(), -4);
        byte[] tabled = DictionaryTest.dictionary(5, new int[] {1, 1, 1}, new byte[0]);
        for (int n = 2999; n <= 3002; n++) {
            x = Check.with(Make.join(tabled, new byte[n - tabled.length]));
            Check.due(n + " with tables", x.keep(), n > 3000 ? -4 : 5);
        }
        x = Check.with(Make.join(Make.number(3962610743L, 4), new byte[2997]));
        Check.due("a fault in 3001", x.keep(), -31);
        Check.due("its place", x.place(), 0);
    }

    private static void open() {
        Check.says("THE ROW is opened, spans up to one told: how many bytes came out. -2 it is below 0,");
        byte[] frame = Make.join(Make.head(0, 0), Make.block(true, 0, 2, Make.text("ab")));
        TabledFrames x = Check.with(frame);
        Check.due("below 0", x.open(-1), -2);
        Check.due("far below 0", x.open(Long.MIN_VALUE), -2);
        Check.due("nothing came out", x.out(0), -2);
        Check.due("0", x.open(0), -14);
        Check.due("one less", x.open(1023), -14);
        Check.due("just", x.open(1024), 2);
        Check.due("the most", x.open(Long.MAX_VALUE), 2);
        Check.due("the row stays", x.size(), frame.length);
        Check.due("0, and nothing to open", new TabledFrames().open(0), 0);
        Check.due("-1, and nothing to open", new TabledFrames().open(-1), -2);
        x = Check.with(Make.join(Make.wide(), Make.block(true, 1, 8000, Make.bytes(9))));
        Check.due("8000 came out", x.open(131072), 8000);
        Check.due("the last", x.out(7999), 9);
        Check.due("none behind", x.out(8000), -2);
        x.cut(0);
        Check.due("then nothing", x.open(0), 0);
        Check.due("nothing came out", x.out(0), -2);
    }

    private static void openLeaves() {
        Check.says("what came out before stays");
        TabledFrames x = Check.with(Make.join(Make.head(0, 0), Make.block(true, 0, 2, Make.text("ab"))));
        Check.due("open", x.open(1024), 2);
        x.feed(0, 1);
        Check.fault("a rest", x, 1024, 1, 12);
        Check.cameOut("though the frame was whole", x, Make.text("ab"));
        Check.load(x, Make.join(Make.head(0, 0), Make.block(false, 0, 3, Make.text("xyz"))));
        Check.fault("no last block", x, 1024, 1, 12);
        Check.cameOut("though three came out of a block", x, Make.text("ab"));
    }

    private static void place() {
        Check.says("The PLACE of the FAULT of the latest keep(), open(); -1 if it had none (a refusal by another number leaves what was).");
        TabledFrames x = Check.with(Make.join(Make.head(0, 0), Make.bytes(0, 0)));
        Check.due("none before", x.place(), -1);
        Check.due("open -1", x.open(-1), -2);
        Check.due("-2 leaves none", x.place(), -1);
        Check.fault("no N3", x, 1024, 1, 8);
        Check.due("asked again", x.place(), 8);
        Check.due("open -1", x.open(-1), -2);
        Check.due("-2 leaves 8", x.place(), 8);
        x.fill(3000, 1, 0);
        Check.due("keep", x.keep(), -4);
        Check.due("-4 leaves 8", x.place(), 8);
        Check.due("pack", x.pack(0, 4), -3);
        Check.due("-3 leaves 8", x.place(), 8);
        x.cut(3);
        Check.due("keep", x.keep(), 0);
        Check.due("keep() had none", x.place(), -1);
        Check.load(x, Make.number(3962610743L, 4));
        Check.due("keep", x.keep(), -31);
        Check.due("keep() had one at 0", x.place(), 0);
        x.cut(0);
        Check.due("open", x.open(0), 0);
        Check.due("open() had none", x.place(), -1);
        Check.load(x, Make.number(3962610743L, 4));
        Check.due("keep", x.keep(), -31);
        x.cut(0);
        Check.due("keep none", x.keep(), 0);
        Check.due("keep() of none had none", x.place(), -1);
    }

    private static void packAnswers() {
        Check.says("THE ROW is PACKED: how many bytes came out.");
        TabledFrames x = new TabledFrames();
        Check.due("nothing", x.pack(0, 0), 9);
        Check.due("the last", x.out(8), 0);
        Check.due("none behind", x.out(9), -2);
        Check.due("the row stays", x.size(), 0);
        x.fill(6000, 1, 0);
        Check.due("6000", x.pack(0, 1), 6 + 3 * 3 + 6000 + 4);
        Check.due("none behind", x.out(6019), -2);
        Check.due("the row stays", x.size(), 6000);
    }

    private static void packRefuses() {
        Check.says("-2 LEVEL, MARKS (0 .. 7), -3 MARKS 4, and no dictionary, -4 more than 6000 bytes.");
        TabledFrames x = Check.with(Make.text("ab"));
        for (int level : new int[] {-1, 3, Integer.MIN_VALUE, Integer.MAX_VALUE}) {
            Check.due("level " + level, x.pack(level, 0), -2);
        }
        for (int marks : new int[] {-1, 8, 16, Integer.MIN_VALUE, Integer.MAX_VALUE}) {
            Check.due("marks " + marks, x.pack(0, marks), -2);
        }
        for (int level = 0; level < 3; level++) {
            for (int marks = 0; marks < 8; marks++) {
                Check.due("pack(" + level + ", " + marks + ")", x.pack(level, marks), marks > 3 ? -3 : 11 + (marks % 2) * 4);
            }
        }
        Check.due("keep", x.keep(), 0);
        for (int marks = 0; marks < 8; marks++) {
            Check.due("marks " + marks + " and a dictionary", x.pack(0, marks), 11 + (marks % 2) * 4);
        }
        x.fill(5999, 1, 0);
        for (int marks = 0; marks < 8; marks++) {
            Check.due("6001 by marks " + marks, x.pack(0, marks), -4);
        }
        x.cut(6000);
        Check.due("6000", x.pack(0, 7), 4 + 1 + 2 + 9 + 6000 + 4);
    }

    private static void packLeaves() {
        Check.says("(Neither place() nor told() and the like hang on it.)");
        TabledFrames x = busy();
        List<Integer> opened = seenOfOpen(x);
        for (int level = 0; level < 3; level++) {
            for (int marks = 0; marks < 8; marks++) {
                Check.due("pack", x.pack(level, marks) > 0 ? 1 : 0, 1);
                same("pack(" + level + ", " + marks + ")", seenOfOpen(x), opened);
            }
        }
        Check.load(x, Make.same('a', 5000));
        x.fill(900, 3, 5);
        Check.due("pack", x.pack(2, 7) > 0 ? 1 : 0, 1);
        same("a long one", seenOfOpen(x), opened);
    }
}

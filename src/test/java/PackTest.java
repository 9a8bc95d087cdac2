import java.util.Random;

/** Promise 13 by section 6: every byte as the model has it, ranges, refusals. */
public final class PackTest {
    private PackTest() {
    }

    public static void main(String[] args) {
        refusals();
        small();
        sizes();
        compareMany();
        deepCode();
        oneSymbol();
        howManyLetters();
        howManySequences();
        justAsMany();
        whatItLeaves();
        Check.end();
    }

    private static void refusals() {
        TabledFrames x = Check.with(Make.text("abcdefgh"));
        x.swap();
        Check.load(x, Make.text("abcdefgh"));
        for (int[] c : new int[][] {{-1, 0}, {3, 0}, {0, -1}, {0, 8}, {2, Integer.MAX_VALUE}, {Integer.MIN_VALUE, 1}}) {
            Check.due("pack(" + c[0] + ", " + c[1] + ")", x.pack(c[0], c[1]), -2);
        }
        for (int marks = 4; marks < 8; marks++) {
            Check.due("no dictionary", x.pack(1, marks), -3);
        }
        Check.cameOut("nothing changed", x, Make.text("abcdefgh"));
        x.fill(5993, 1, 0);
        Check.due("6001", x.size(), 6001);
        Check.due("no room", x.pack(0, 0), -4);
        Check.due("no dictionary first", x.pack(0, 4), -3);
        Check.due("outside first", x.pack(3, 4), -2);
        Check.cameOut("nothing changed", x, Make.text("abcdefgh"));
        x.cut(6000);
        Check.due("6000", x.pack(0, 0), 6 + 9 + 6000);
    }

    private static void is(String what, byte[] row, int level, int marks, byte[] want) {
        TabledFrames x = Check.with(row);
        Check.due(what + ": pack", x.pack(level, marks), want.length);
        Check.cameOut(what, x, want);
    }

    private static void small() {
        for (int level = 0; level < 3; level++) {
            is("nothing", new byte[0], level, 0, Make.join(Make.head(0, 0), Make.block(true, 0, 0)));
            is("nothing, one", new byte[0], level, 2, Make.join(Make.head(32, 0), Make.block(true, 0, 0)));
            is("nothing, a sum", new byte[0], level, 1, Make.join(Make.head(4, 0), Make.block(true, 0, 0), Make.number(0x51D8E999L, 4)));
            is("abc", Make.text("abc"), level, 3, Make.join(Make.head(36, 3), Make.block(true, 0, 3, Make.text("abc")), Make.number(0xAD770999L, 4)));
        }
        is("a, plain", Make.text("a"), 0, 0, Make.join(Make.head(0, 0), Make.block(true, 0, 1, Make.text("a"))));
        is("a, one byte", Make.text("a"), 1, 0, Make.join(Make.head(0, 0), Make.block(true, 1, 1, Make.text("a"))));
        is("2049 of a", Make.same('a', 2049), 2, 0, Make.join(Make.head(0, 16), Make.block(false, 1, 2048, Make.text("a")), Make.block(true, 1, 1, Make.text("a"))));
        byte[] row = Make.join(Make.text("0123456789"), Make.text("0123456789"), Make.text("0123456789"));
        byte[] packed = Make.join(Make.bytes(10 << 3), Make.text("0123456789"), Make.bytes(1, 0),
            Model.sequenceRow(new States[] {States.byDefault(0), States.byDefault(1), States.byDefault(2)}, java.util.List.of(new int[] {10, 20, 13})));
        is("a copy that runs into itself", row, 1, 2, Make.join(Make.head(32, 30), Make.packed(true, packed)));
    }

    private static void sizes() {
        for (int n : new int[] {255, 256, 257, 1023, 1024, 1025, 2047, 2048, 2049, 4095, 4096, 4097, 5999, 6000}) {
            for (int level = 0; level < 3; level++) {
                for (int marks = 0; marks < 4; marks++) {
                    byte[] row = new byte[n];
                    new Random(n).nextBytes(row);
                    compare("random " + n, row, null, null, level, marks);
                }
            }
        }
    }

    private static void compare(String what, byte[] row, TabledFrames with, Model.Kept kept, int level, int marks) {
        TabledFrames x = with == null ? new TabledFrames() : with;
        Check.load(x, row);
        byte[] want = Model.pack(row, kept, level, marks);
        Check.due(what + ", " + level + ", " + marks + ": pack", x.pack(level, marks), want.length);
        Check.cameOut(what, x, want);
        x.swap();
        Check.due(what + ", " + level + ", " + marks + ": open", x.open(8192), row.length);
        Check.cameOut(what + " opened", x, row);
    }

    private static void compareMany() {
        Random random = new Random(20);
        byte[] content = new byte[2000];
        for (int i = 0; i < content.length; i++) {
            content[i] = (byte) (random.nextInt(40) + (i < 1000 ? 32 : 100));
        }
        TabledFrames plain = Check.with(content);
        Check.due("a plain dictionary", plain.keep(), 0);
        Model.Kept plainKept = new Model.Kept(0, content, new int[] {1, 4, 8});
        int[] numbers = {5, 255, 256, 65535, 65536, -2};
        for (int turn = 0; turn < 240; turn++) {
            byte[] row = row(random, content);
            int level = turn % 3;
            compare("row " + turn, row, null, null, level, turn / 3 % 4);
            compare("row " + turn + " with content", row, plain, plainKept, level, 4 | turn / 3 % 4);
            compare("row " + turn + " without, though it is kept", row, plain, null, level, turn / 3 % 4);
            int number = numbers[turn % numbers.length];
            byte[] dictionary = DictionaryTest.dictionary(number, new int[] {2, 7, 300}, content);
            TabledFrames tabled = Check.with(dictionary);
            Check.due("a dictionary with tables", tabled.keep(), number);
            Model.Kept kept = new Model.Kept(number & 0xFFFFFFFFL, content, new int[] {2, 7, 300});
            compare("row " + turn + " with tables", row, tabled, kept, level, 4 | turn / 3 % 4);
        }
    }

    /** Rows of many kinds: few or many letters, short and long copies, runs, parts of the content. */
    static byte[] row(Random random, byte[] content) {
        int n = random.nextInt(6) == 0 ? random.nextInt(6001) : random.nextInt(1500);
        int letters = 2 + random.nextInt(random.nextBoolean() ? 20 : 127);
        int longest = 1 << (2 + random.nextInt(10));
        int often = 1 + random.nextInt(20);
        boolean high = random.nextInt(4) == 0;
        boolean peaked = random.nextBoolean();
        byte[] row = new byte[n];
        for (int i = 0; i < n; ) {
            int what = random.nextInt(2 * often);
            int length = Math.min(n - i, 3 + random.nextInt(longest));
            if (what == 0 && i > 0) {
                int offset = 1 + random.nextInt(i);
                for (int k = 0; k < length; k++, i++) {
                    row[i] = row[i - offset];
                }
            } else if (what == 1) {
                int from = random.nextInt(content.length);
                for (int k = 0; k < length && from + k < content.length; k++, i++) {
                    row[i] = content[from + k];
                }
            } else {
                int letter = random.nextInt(letters);
                row[i++] = (byte) ((peaked ? random.nextInt(letter + 1) : letter) + (high ? 90 : 0));
            }
        }
        return row;
    }

    /** Some letters so often that each joined tree is joined next, among others: words deeper than 11 have their numbers halved. */
    private static void deepCode() {
        int[] few = {1, 1, 1, 3, 4, 7, 11, 18, 29};
        for (int turn = 0; turn < 100; turn++) {
            Random random = new Random(turn);
            int[] often = new int[128];
            int chain = 5 + turn % 5;
            int each = 12 + random.nextInt(40);
            int others = 1700 / (each + 4);
            for (int i = 0; i < chain + others; i++) {
                int s = random.nextInt(128);
                often[s] = often[s] > 0 ? often[s] : i < chain ? few[i] : each + random.nextInt(8);
            }
            compare("deep " + turn, lettersSoOften(often, random), null, null, 2, 3);
        }
        for (int depth = 9; depth <= 12; depth++) {
            Check.due("a code as deep as " + depth, Model.DEPTHS[depth] > 0 ? 1 : 0, 1);
        }
    }

    /** Letters in an order in which no four of them come twice, so that there are no copies. */
    static byte[] lettersSoOften(int[] often, Random random) {
        StringBuilder row = new StringBuilder();
        java.util.Set<String> seen = new java.util.HashSet<>();
        int left = java.util.Arrays.stream(often).sum();
        for (int tries = 0; left > 0 && tries < 1000000; tries++) {
            int s = random.nextInt(128);
            int n = row.length();
            if (often[s] > random.nextInt(60) && (n < 3 || seen.add(row.substring(n - 3) + (char) s))) {
                row.append((char) s);
                often[s]--;
                left--;
            }
        }
        return Make.text(row.toString());
    }

    /** Copies without letters between them, and copies by the first remembered alone: kinds of one symbol. */
    private static void oneSymbol() {
        byte[] content = new byte[1500];
        new Random(5).nextBytes(content);
        TabledFrames x = Check.with(content);
        Check.due("keep", x.keep(), 0);
        Model.Kept kept = new Model.Kept(0, content, new int[] {1, 4, 8});
        Random random = new Random(6);
        for (int length : new int[] {4, 10, 34, 50}) {
            byte[] row = new byte[0];
            for (int i = 0; i < 20 + length % 3; i++) {
                int from = random.nextInt(content.length - length);
                row = Make.join(row, java.util.Arrays.copyOfRange(content, from, from + length));
            }
            for (int level = 1; level < 3; level++) {
                compare("copies of " + length, row, x, kept, level, 4);
            }
        }
        byte[] period = java.util.Arrays.copyOfRange(content, 0, 24);
        byte[] row = period;
        for (int i = 0; i < 40; i++) {
            period[11] += 17;
            row = Make.join(row, period);
        }
        compare("one letter a period", row, null, null, 2, 0);
    }

    /** Letters without copies, as many as forms and kinds part at. */
    private static void howManyLetters() {
        Random random = new Random(9);
        for (int n : new int[] {30, 31, 32, 33, 34, 254, 255, 256, 257, 1022, 1023, 1024, 1025, 2047, 2048}) {
            for (int kinds = 4; kinds <= 40; kinds += 12) {
                int[] often = new int[128];
                for (int i = 0; i < n; i++) {
                    often[(i % kinds + random.nextInt(2)) * 3 % 128]++;
                }
                byte[] row = lettersSoOften(often, random);
                for (int level = 1; level < 3; level++) {
                    compare(row.length + " letters", row, null, null, level, 2);
                }
                byte[] high = row.clone();
                high[0] = (byte) 128;
                compare("the first is 128", high, null, null, 2, 2);
                high[0] = 127;
                compare("the first is 127", high, null, null, 2, 2);
                high = row.clone();
                high[row.length - 1] = (byte) 255;
                compare("the last is 255", high, null, null, 2, 2);
            }
        }
    }

    /** Parts of the content, with nothing or always the same letter between: as many as tables and heads part at. */
    private static void howManySequences() {
        byte[] content = new byte[1800];
        new Random(15).nextBytes(content);
        TabledFrames x = Check.with(content);
        Check.due("keep", x.keep(), 0);
        Model.Kept kept = new Model.Kept(0, content, new int[] {1, 4, 8});
        Random random = new Random(16);
        for (int n : new int[] {1, 2, 6, 7, 8, 9, 30, 31, 32, 33, 63, 64, 126, 127, 128, 129, 130, 250, 340}) {
            byte[] row = new byte[0];
            byte[] lettered = new byte[0];
            for (int i = 0; i < n; i++) {
                int from = random.nextInt(content.length - 12);
                byte[] part = java.util.Arrays.copyOfRange(content, from, from + 5 + (n < 200 ? random.nextInt(3) : 0));
                row = Make.join(row, part);
                lettered = Make.join(lettered, part, Make.bytes('z'));
            }
            for (int level = 1; level < 3; level++) {
                compare(n + " copies", row, x, kept, level, 4);
                compare(n + " copies and letters", lettered, x, kept, level, 4);
            }
        }
    }

    /** Small rows of all sorts, among them those that have just as many bytes when they are packed. */
    private static void justAsMany() {
        Random random = new Random(17);
        int[] seen = new int[3];
        for (int turn = 0; turn < 4000; turn++) {
            int n = 8 + random.nextInt(turn % 2 == 0 ? 20 : 100);
            int kinds = 2 + random.nextInt(90);
            byte[] row = new byte[n];
            for (int i = 0; i < n; i++) {
                row[i] = (byte) random.nextInt(kinds);
            }
            int again = random.nextInt(Math.min(n, 10));
            row = Make.join(row, Make.first(row, again));
            compare("small " + turn, row, null, null, 2, 2);
            int packed = Model.lastBody;
            seen[packed < row.length ? 0 : packed == row.length ? 1 : 2]++;
        }
        for (int i = 0; i < 3; i++) {
            Check.due("fewer, as many, more", seen[i] > 0 ? 1 : 0, 1);
        }
        Check.due("a code that has just as many as its letters", Model.justAsManyCoded > 0 ? 1 : 0, 1);
    }

    private static void whatItLeaves() {
        TabledFrames x = Check.with(Make.bytes(1, 2, 3, 4));
        Check.fault("a fault", x, 0, 2, 0);
        Check.load(x, Make.text("hello hello hello hello"));
        Check.due("pack", x.pack(1, 0) > 0 ? 1 : 0, 1);
        Check.due("the row stays", x.size(), 23);
        Check.due("its place stays", x.place(), 0);
        x.swap();
        Check.due("open", x.open(2000), 23);
        Check.told("told", x, 0, 1, 1, 1, 6, 1, 23);
        x.swap();
        x.pack(0, 0);
        Check.told("told stays", x, 0, 1, 1, 1, 6, 1, 23);
        Check.sequence("the sequence stays", x, 0, 6, 17, 9, 6);
    }
}

import java.util.Random;

/** All calls with wild arguments and changed frames: nothing throws, every answer is in its range, all is repeatable. */
public final class RoundTest {
    private RoundTest() {
    }

    public static void main(String[] args) {
        for (int seed = 0; seed < 60; seed++) {
            wildCalls(seed);
        }
        for (int seed = 0; seed < 120; seed++) {
            changedFrames(seed);
        }
        for (int seed = 0; seed < 60; seed++) {
            changedDictionaries(seed);
        }
        Check.end();
    }

    private static int wild(Random random) {
        int[] some = {0, 1, 2, 3, 4, 7, 8, 31, 255, 256, 2000, 3000, 6000, 8000, Integer.MAX_VALUE, Integer.MIN_VALUE};
        int v = some[random.nextInt(some.length)];
        return random.nextInt(3) == 0 ? -v : random.nextInt(3) == 0 ? random.nextInt() : v;
    }

    private static long call(TabledFrames x, Random random) {
        switch (random.nextInt(20)) {
            case 0: return x.feed(random.nextLong(), random.nextInt(12) - 1);
            case 1: return x.fill(random.nextBoolean() ? random.nextInt(2000) : wild(random), wild(random), random.nextInt(10) - 1);
            case 2: return x.size();
            case 3: return x.set(random.nextInt(8) == 0 ? wild(random) : random.nextInt(1 + x.size()), random.nextInt(300) - 20);
            case 4: return x.cut(random.nextBoolean() ? wild(random) : x.size() - random.nextInt(1 + x.size() / 4));
            case 5: return x.again(random.nextInt(1 + x.size()), random.nextBoolean() ? random.nextInt(400) : wild(random));
            case 6: return x.swap();
            case 7: return x.differ();
            case 8: return x.keep();
            case 9:
            case 10: return x.open(random.nextInt(5) == 0 ? random.nextLong() : 1L << random.nextInt(24));
            case 11: return x.place();
            case 12:
            case 13: return x.pack(random.nextInt(9) == 0 ? wild(random) : random.nextInt(3), random.nextInt(9) == 0 ? wild(random) : random.nextInt(8));
            case 14: return x.out(wild(random));
            case 15: return x.sum(random.nextBoolean());
            case 16: return x.told(random.nextInt(14) - 1);
            case 17: return x.sequence(random.nextBoolean() ? random.nextInt(9) : wild(random), random.nextInt(6) - 1);
            case 18: return x.table(random.nextInt(5) - 1, random.nextBoolean() ? random.nextInt(70) - 2 : wild(random), random.nextInt(5) - 1);
            default: return x.bits(random.nextInt(5) == 0 ? wild(random) : random.nextInt(256));
        }
    }

    private static void wildCalls(int seed) {
        Random random = new Random(seed);
        Random twin = new Random(seed);
        TabledFrames x = new TabledFrames();
        TabledFrames y = new TabledFrames();
        for (int i = 0; i < 512; i++) {
            long first = call(x, random);
            Check.due("seed " + seed + ", call " + i + " again", call(y, twin), first);
        }
    }

    private static void changedFrames(int seed) {
        Random random = new Random(seed);
        TabledFrames x = new TabledFrames();
        byte[] content = new byte[500];
        random.nextBytes(content);
        if (seed % 3 == 0) {
            Check.load(x, content);
            x.keep();
        } else if (seed % 3 == 1) {
            Check.load(x, DictionaryTest.dictionary(9, new int[] {1, 2, 3}, content));
            x.keep();
        }
        byte[] row = PackTest.row(random, content);
        Check.load(x, row);
        int n = x.pack(1 + seed % 2, random.nextInt(4) | (seed % 3 == 2 ? 0 : 4));
        x.swap();
        Check.due("it opens", x.open(8192), row.length);
        Check.cameOut("it opens", x, row);
        for (int turn = 0; turn < 200; turn++) {
            int i = random.nextInt(2) == 0 ? random.nextInt(n) : random.nextInt(Math.min(n, 30));
            int was = x.set(i, random.nextInt(256));
            int answer = x.open(8192);
            boolean known = answer >= 0 && answer <= 8000 || answer <= -11 && answer >= -30;
            Check.due("the answer " + answer + " is one of the document's", known ? 1 : 0, 1);
            boolean placed = answer >= 0 ? x.place() == -1 : x.place() >= 0 && x.place() <= n;
            Check.due("the place " + x.place() + " is one of the row's", placed ? 1 : 0, 1);
            x.set(i, was);
        }
        Check.due("it opens still", x.open(8192), row.length);
        Check.cameOut("it opens still", x, row);
    }

    private static void changedDictionaries(int seed) {
        Random random = new Random(seed);
        byte[] dictionary = DictionaryTest.dictionary(9, new int[] {1, 2, 3}, Make.text("some content, not much of it"));
        TabledFrames x = new TabledFrames();
        for (int turn = 0; turn < 100; turn++) {
            byte[] changed = dictionary.clone();
            for (int k = 0; k < 1 + turn % 3; k++) {
                changed[4 + random.nextInt(45)] = (byte) random.nextInt(256);
            }
            Check.load(x, changed);
            int number = changed[4] & 255 | (changed[5] & 255) << 8 | (changed[6] & 255) << 16 | (changed[7] & 255) << 24;
            int answer = x.keep();
            Check.due("the number, or the fault", answer == number || answer == -31 ? 1 : 0, 1);
            Check.due("the place", x.place(), answer == -31 ? 0 : -1);
            if (answer == number) {
                Check.due("it packs", x.pack(2, 7) > 0 ? 1 : 0, 1);
                x.swap();
                Check.due("it opens", x.open(8192), changed.length);
            }
        }
    }
}

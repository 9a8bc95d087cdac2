import java.util.Random;

/** Promises 10 to 12 and 16 to 19: every answer behind open() and keep() against Judge, for right frames and wrong ones. */
public final class JudgeTest {
    private static final int[] SEEN = new int[40];

    private JudgeTest() {
    }

    public static void main(String[] args) {
        int turns = args.length > 0 ? Integer.parseInt(args[0]) : 4000;
        int first = args.length > 1 ? Integer.parseInt(args[1]) : 0;
        for (int seed = first; seed < first + turns; seed++) {
            one(seed);
        }
        StringBuilder faults = new StringBuilder("fine and faults:");
        for (int fault = 0; fault <= 21; fault++) {
            faults.append(' ').append(SEEN[fault]);
            Check.due("fault " + fault + " comes", SEEN[fault] > 0 ? 1 : 0, 1);
        }
        System.out.println(faults);
        Check.end();
    }

    private static void one(int seed) {
        Random random = new Random(seed);
        TabledFrames x = new TabledFrames();
        Judge.Kept kept = keep(x, random, "seed " + seed);
        int wrong = seed % 3 == 0 ? 0 : 5 + random.nextInt(60);
        byte[] frames = new Wild(random, kept, wrong).frames();
        if (frames.length > 8000) {
            return;
        }
        long most = random.nextInt(8) == 0 ? random.nextInt(20000) : Long.MAX_VALUE;
        open(x, frames, kept, most, "seed " + seed);
        for (int turn = 0; turn < 12 && frames.length > 0; turn++) {
            open(x, changed(random, frames), kept, most, "seed " + seed + ", change " + turn);
        }
    }

    private static Judge.Kept keep(TabledFrames x, Random random, String what) {
        int choice = random.nextInt(4);
        if (choice == 0) {
            return null;
        }
        byte[] dictionary = Wild.dictionary(random, choice == 1 ? random.nextInt() | 1 : 1 + random.nextInt(255));
        if (choice == 2) {
            dictionary = java.util.Arrays.copyOfRange(dictionary, 8, dictionary.length);
        } else if (random.nextInt(3) == 0) {
            dictionary = changed(random, dictionary);
        }
        if (dictionary.length == 0) {
            return null;
        }
        Check.load(x, dictionary);
        Judge.Kept kept = Judge.keep(dictionary);
        Check.due(what + ": keep", x.keep(), kept == null ? -31 : (int) kept.number);
        Check.due(what + ": place", x.place(), kept == null ? 0 : -1);
        SEEN[21] += kept == null ? 1 : 0;
        return kept;
    }

    private static void open(TabledFrames x, byte[] row, Judge.Kept kept, long most, String what) {
        Check.load(x, row);
        Judge judge = Judge.open(row, kept, most);
        judge.compare(what, x, x.open(most));
        SEEN[judge.answer < 0 ? -10 - judge.answer : 0]++;
    }

    private static byte[] changed(Random random, byte[] bytes) {
        if (bytes.length == 0) {
            return bytes;
        }
        if (random.nextInt(6) == 0) {
            return Make.first(bytes, random.nextInt(bytes.length));
        }
        byte[] all = bytes.clone();
        int times = 1 + random.nextInt(3);
        for (int i = 0; i < times; i++) {
            int at = random.nextInt(random.nextBoolean() ? all.length : Math.min(all.length, 60));
            all[at] = random.nextBoolean() ? (byte) random.nextInt() : (byte) (all[at] ^ 1 << random.nextInt(8));
        }
        return all;
    }
}

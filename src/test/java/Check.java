import java.io.IOException;
import java.nio.file.Files;
import java.nio.file.Path;
import java.util.ArrayList;
import java.util.List;
import java.util.function.IntBinaryOperator;

/** What every test of the project needs: to compare answers, to load rows, and to end with the right code. */
final class Check {
    private static int wrong = 0;
    private static long compared = 0;
    private static final List<String> SENTENCES = new ArrayList<>();
    private static String sentence = "";

    private Check() {
    }

    static void due(String call, long got, long want) {
        compared++;
        if (got != want) {
            wrong++;
            if (wrong <= 50) {
                System.out.println(sentence + call + " answered " + got + ", due is " + want);
            }
        }
    }

    /** From here on answers are due by this sentence of the document. */
    static void says(String quoted) {
        SENTENCES.add(quoted);
        sentence = "\"" + quoted + "\": ";
    }

    /** Tells words that were quoted and are not the document's, if it is at hand; and those that nothing quotes, if asked. */
    static void quotes(boolean tellOthers) throws IOException {
        String path = System.getProperty("doc", "");
        if (path.isEmpty() || !Files.exists(Path.of(path))) {
            return;
        }
        sentence = "";
        String doc = plainText(Files.readString(Path.of(path)));
        boolean[] quoted = new boolean[doc.length()];
        for (String s : SENTENCES) {
            String text = plainText(s);
            int at = doc.indexOf(text);
            if (at < 0) {
                System.out.println("the document does not say: " + s);
            }
            for (int i = 0; at >= 0 && i < text.length(); i++) {
                quoted[at + i] = true;
            }
        }
        StringBuilder others = new StringBuilder();
        for (int i = 0; tellOthers && i < quoted.length; i++) {
            if (!quoted[i]) {
                others.append(i > 0 && quoted[i - 1] ? "\n" : "").append(doc.charAt(i));
            }
        }
        System.out.print(tellOthers ? "not quoted:\n" + others + "\n" : "");
    }

    private static String plainText(String s) {
        return s.replaceAll("\\s+", " ");
    }

    /** The row of x becomes just these bytes. */
    static TabledFrames load(TabledFrames x, byte[] bytes) {
        x.feed(0, 0);
        int i = 0;
        for (; i + 8 <= bytes.length; i += 8) {
            long v = 0;
            for (int k = 0; k < 8; k++) {
                v = v << 8 | bytes[i + k] & 255;
            }
            x.feed(v, 8);
        }
        for (; i < bytes.length; i++) {
            x.feed(bytes[i], 1);
        }
        return x;
    }

    static TabledFrames with(byte[] bytes) {
        return load(new TabledFrames(), bytes);
    }

    /** A new object opens the bytes: n of them come out, and place() is -1. */
    static TabledFrames fine(String what, byte[] bytes, int n) {
        TabledFrames x = with(bytes);
        due(what + ": open", x.open(Long.MAX_VALUE), n);
        due(what + ": place", x.place(), -1);
        return x;
    }

    static TabledFrames fine(String what, byte[] bytes, byte[] want) {
        TabledFrames x = fine(what, bytes, want.length);
        cameOut(what, x, want);
        return x;
    }

    static void cameOut(String what, TabledFrames x, byte[] want) {
        for (int i = 0; i < want.length; i++) {
            due(what + ": out(" + i + ")", x.out(i), want[i] & 255);
        }
        due(what + ": out(" + want.length + ")", x.out(want.length), -2);
    }

    /** A new object refuses to open the bytes, by this fault at this place. */
    static TabledFrames fault(String what, byte[] bytes, int fault, int place) {
        return fault(what, with(bytes), Long.MAX_VALUE, fault, place);
    }

    static TabledFrames fault(String what, TabledFrames x, long span, int fault, int place) {
        due(what + ": open", x.open(span), -10 - fault);
        due(what + ": place", x.place(), place);
        return x;
    }

    static void told(String what, TabledFrames x, int from, int... want) {
        for (int i = 0; i < want.length; i++) {
            due(what + ": told(" + (from + i) + ")", x.told(from + i), want[i]);
        }
    }

    static void sequence(String what, TabledFrames x, int i, int... want) {
        each(what + ": sequence(" + i + ", ", want, (k, none) -> x.sequence(i, k));
    }

    private static void each(String what, int[] want, IntBinaryOperator call) {
        for (int k = 0; k < want.length; k++) {
            due(what + k + ")", call.applyAsInt(k, 0), want[k]);
        }
    }

    static void end() {
        System.out.println(wrong == 0 ? compared + " answers are as due" : wrong + " of " + compared + " answers are not as due");
        if (wrong != 0) {
            System.exit(1);
        }
    }
}

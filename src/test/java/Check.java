import java.io.IOException;
import java.nio.charset.StandardCharsets;
import java.nio.file.Files;
import java.nio.file.Path;
import java.util.LinkedHashMap;
import java.util.Map;
import java.util.TreeSet;
import java.util.function.BooleanSupplier;
import java.util.function.LongSupplier;

/** What the tests share: they compare answers, count, and end with exit code 1 if one was wrong. */
final class Check {
    private static int passed = 0;
    private static int failed = 0;
    /** Every sentence that a test holds, and its promise; the one that is held now. */
    private static final Map<String, Integer> SENTENCES = new LinkedHashMap<>();
    private static String held = "";

    private Check() {
    }

    static void due(String call, long got, long want) {
        if (got == want) {
            passed++;
        } else {
            failed++;
            System.out.println(held + call + " answered " + got + ", due is " + want);
        }
    }

    static void due(String call, boolean got, boolean want) {
        due(call, got ? 1 : 0, want ? 1 : 0);
    }

    /** A call that is refused by that number, whatever TROUBLE was ahead of it. */
    static void refused(ReelChange x, int trouble, String call, LongSupplier it) {
        unlike(x, trouble);
        due(call, it.getAsLong(), -1);
        due("trouble of " + call, x.trouble(), trouble);
    }

    static void refusedAct(ReelChange x, int trouble, String call, BooleanSupplier it) {
        unlike(x, trouble);
        due(call, it.getAsBoolean(), false);
        due("trouble of " + call, x.trouble(), trouble);
    }

    /** A call that isn't refused. */
    static void told(ReelChange x, String call, LongSupplier it, long want) {
        unlike(x, 0);
        due(call, it.getAsLong(), want);
        due("trouble of " + call, x.trouble(), 0);
    }

    static void toldAct(ReelChange x, String call, BooleanSupplier it) {
        unlike(x, 0);
        due(call, it.getAsBoolean(), true);
        due("trouble of " + call, x.trouble(), 0);
    }

    /** Leaves another TROUBLE, by a call that changes nothing. */
    private static void unlike(ReelChange x, int trouble) {
        if (trouble == 2) {
            x.shows(-1);
        } else {
            x.house(-1);
        }
    }

    /** The answers of several calls, in a row. */
    static void row(String calls, long[] got, long... want) {
        for (int i = 0; i < Math.max(got.length, want.length); i++) {
            due(calls + " [" + i + "]", i < got.length ? got[i] : Long.MIN_VALUE, i < want.length ? want[i] : Long.MIN_VALUE);
        }
    }

    /** From here on the test holds that sentence of that promise, word by word as the document has it. */
    static void holds(int promise, String sentence) {
        SENTENCES.put(sentence, promise);
        held = "promise " + promise + ", \"" + sentence + "\": ";
    }

    /** Whether each promise has a sentence that is held, and each sentence stands in the document, if that is there. */
    static void sentencesStandIn(Path document, int promises) throws IOException {
        held = "";
        for (int promise = 1; promise <= promises; promise++) {
            due("a sentence of promise " + promise + " is held", new TreeSet<>(SENTENCES.values()).contains(promise), true);
        }
        if (!Files.isRegularFile(document)) {
            System.out.println("no document at " + document + ": the sentences are not compared with it");
            return;
        }
        String text = Files.readString(document).replaceAll("\\s+", " ");
        for (String sentence : SENTENCES.keySet()) {
            due("the document says: " + sentence, text.contains(sentence), true);
        }
    }

    static void end(String test) {
        System.out.println(test + ": " + passed + " passed, " + failed + " failed");
        if (failed > 0) {
            System.exit(1);
        }
    }

    /** Feeds a text, blanks behind it up to twenty bytes. */
    static void feed(ReelChange x, String text) {
        byte[] bytes = text.getBytes(StandardCharsets.ISO_8859_1);
        for (int at = 0; at < bytes.length; at += 20) {
            int[] five = new int[5];
            for (int i = 0; i < 20; i++) {
                int sign = at + i < bytes.length ? bytes[at + i] & 255 : ' ';
                five[i / 4] = five[i / 4] << 8 | sign;
            }
            x.feed(five[0], five[1], five[2], five[3], five[4]);
        }
    }

    static int house(ReelChange x, String text) {
        feed(x, text);
        return x.house(text.length());
    }

    /** A new object with that HOUSE. */
    static ReelChange open(String text) {
        ReelChange x = new ReelChange();
        if (house(x, text) < 0) {
            failed++;
            System.out.println("refused by " + x.trouble() + ", fault " + x.fault() + " at " + x.where() + ": " + text);
        }
        return x;
    }
}

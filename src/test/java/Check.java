import java.nio.charset.StandardCharsets;

/** What the tests share: they compare answers, count, and end with exit code 1 if one was wrong. */
final class Check {
    private static int passed = 0;
    private static int failed = 0;

    private Check() {
    }

    static void due(String call, long got, long want) {
        if (got == want) {
            passed++;
        } else {
            failed++;
            System.out.println(call + " answered " + got + ", due is " + want);
        }
    }

    static void due(String call, boolean got, boolean want) {
        due(call, got ? 1 : 0, want ? 1 : 0);
    }

    /** The answers of several calls, in a row. */
    static void row(String calls, long[] got, long... want) {
        for (int i = 0; i < Math.max(got.length, want.length); i++) {
            due(calls + " [" + i + "]", i < got.length ? got[i] : Long.MIN_VALUE, i < want.length ? want[i] : Long.MIN_VALUE);
        }
    }

    static void end(String test) {
        System.out.println(test + ": " + passed + " passed, " + failed + " failed");
        if (failed > 0) {
            System.exit(1);
        }
    }

    /** Feeds a text, blanks behind it up to twenty bytes. */
    static void feed(ReelChange x, String text) {
        byte[] bytes = text.getBytes(StandardCharsets.ISO_8859_1);
        for (int at = 0; at < bytes.length; at += 20) {
            int[] five = new int[5];
            for (int i = 0; i < 20; i++) {
                int sign = at + i < bytes.length ? bytes[at + i] & 255 : ' ';
                five[i / 4] = five[i / 4] << 8 | sign;
            }
            x.feed(five[0], five[1], five[2], five[3], five[4]);
        }
    }

    static int house(ReelChange x, String text) {
        feed(x, text);
        return x.house(text.length());
    }

    /** A new object with that HOUSE. */
    static ReelChange open(String text) {
        ReelChange x = new ReelChange();
        if (house(x, text) < 0) {
            failed++;
            System.out.println("refused by " + x.trouble() + ", fault " + x.fault() + " at " + x.where() + ": " + text);
        }
        return x;
    }
}

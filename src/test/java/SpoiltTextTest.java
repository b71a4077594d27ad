import java.util.Random;
import java.util.regex.Matcher;
import java.util.regex.Pattern;
import java.util.ArrayList;
import java.util.List;

/** Promises 3 to 5: texts at random, spoilt in places; the FAULT and its place against SlowText's. */
public final class SpoiltTextTest {
    private static final int TEXTS = 30000;
    private static final String[] WORDS = {"house", "reel", "town", "mark", "join", "weak", "man", "shows", "boys", "by", "seen", "scratch", "apart", "motor", "leader", "burns",
        "trim", "mend", "frames", "first", "whole", "trust", "lacks", "snaps", "clean", "early", "late", "misled", "slip", "ride", "falls", "black", "lost",
        "a", "b", "c", "h", "ta", "tb", "td", "ma", "mb", "md", "zzz", "abcdefgh", "abcdefghi", ";", ",", ";;", ".", "", " "};
    private static final String[] NUMBERS = {"0", "1", "2", "3", "4", "5", "7", "8", "9", "10", "40", "41", "50", "51", "99", "100", "999", "1000", "1999", "2000", "2001", "9999",
        "10000", "0000", "00001", "007"};

    private final Random random = new Random(77);
    private final int[] found = new int[7];

    public static void main(String[] args) {
        new SpoiltTextTest().run();
        Check.end("SpoiltTextTest");
    }

    private void run() {
        for (int i = 0; i < TEXTS; i++) {
            String text = SlowHouse.any(random).text();
            for (int spoilt = random.nextInt(4); spoilt > 0; spoilt--) {
                text = random.nextInt(3) > 0 ? otherToken(text) : random.nextBoolean() ? otherLines(text) : otherByte(text);
            }
            compare(text.length() > 900 ? text.substring(0, 900) : text);
        }
        for (int number = 0; number <= 6; number++) {
            Check.due("texts of FAULT " + number + ": " + found[number], found[number] > 50, true);
        }
    }

    private void compare(String text) {
        SlowText slow = new SlowText(text);
        ReelChange x = new ReelChange();
        Check.due("house of " + text, Check.house(x, text), slow.answer);
        Check.due("fault of " + text, x.fault(), slow.fault);
        Check.due("where of " + text, x.where(), slow.where);
        found[slow.fault]++;
    }

    private String any(String[] all) {
        return all[random.nextInt(all.length)];
    }

    /** A TOKEN is another, is gone, or is there twice. */
    private String otherToken(String text) {
        Matcher tokens = Pattern.compile("[a-z]+|[0-9]+|[^ ]").matcher(text);
        List<int[]> all = new ArrayList<>();
        while (tokens.find()) {
            all.add(new int[] {tokens.start(), tokens.end()});
        }
        if (all.isEmpty()) {
            return text;
        }
        int[] one = all.get(random.nextInt(all.size()));
        String token = text.substring(one[0], one[1]);
        boolean isNumber = Character.isDigit(token.charAt(0));
        String other = isNumber && random.nextInt(8) > 0 ? any(NUMBERS) : any(WORDS);
        if (random.nextInt(10) == 0) {
            other = token + " " + token;
        }
        return text.substring(0, one[0]) + other + text.substring(one[1]);
    }

    /** A LINE is gone, is there twice, or stands elsewhere. */
    private String otherLines(String text) {
        List<String> lines = new ArrayList<>(List.of(text.split(";", -1)));
        String line = lines.get(random.nextInt(lines.size()));
        if (random.nextBoolean()) {
            lines.remove(line);
        }
        if (random.nextInt(3) > 0) {
            lines.add(random.nextInt(lines.size() + 1), line);
        }
        return String.join(";", lines);
    }

    private String otherByte(String text) {
        int at = random.nextInt(text.length() + 1);
        switch (random.nextInt(4)) {
            case 0:
                return text.substring(0, at);
            case 1:
                return text.substring(0, at) + " " + text.substring(at);
            case 2:
                return text.substring(0, at) + text.substring(Math.min(at + 1, text.length()));
            default:
                return text.substring(0, at) + (char) random.nextInt(256) + text.substring(at);
        }
    }
}

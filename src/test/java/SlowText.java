import java.util.ArrayList;
import java.util.HashMap;
import java.util.HashSet;
import java.util.List;
import java.util.Map;
import java.util.Set;
import java.util.TreeSet;
import java.util.regex.Matcher;
import java.util.regex.Pattern;

/** THE TEXT read again from the document, in another way: all TOKENS first, then each LINE by a pattern of it. */
final class SlowText {
    private static final Set<String> NO_NAMES = Set.of("house", "reel", "town", "mark", "join", "weak", "man", "shows", "boys", "by", "seen", "scratch");

    /** Behind its first WORD: new and old NAMES, WHOLES with their bounds, other WORDS as they are. */
    private static final Map<String, String> LINES = Map.of(
            "house", "apart 1..50 motor 0..50 leader 0..99 burns 1..9999 trim 0..999 mend 0..999",
            "reel", "NEW frames 2..2000 first 0..LAST whole FRAMES..2000",
            "town", "NEW trust 1..9",
            "mark", "REEL 0..LAST by TOWN",
            "join", "REEL 0..LAST lacks 1..99",
            "weak", "REEL 0..LAST snaps 1..99",
            "boys", "1..4 ride 1..2000 falls 0..50",
            "seen", "1..PLACES black 0..9999 lost 0..9999",
            "scratch", "REEL 0..LAST");
    private static final Map<String, Integer> ROOM = Map.of("reel", 8, "town", 4, "mark", 12, "join", 8, "weak", 6, "man", 4, "seen", 6, "scratch", 6);
    private static final Set<String> ONCE = Set.of("house", "shows", "boys");

    private final List<String> tokens = new ArrayList<>();
    private final List<Integer> places = new ArrayList<>();
    private int at = 0;
    private final Map<String, String> sortOf = new HashMap<>();
    private final Map<String, Integer> framesOf = new HashMap<>();
    private final Map<String, Integer> lines = new HashMap<>();
    private final Set<String> marks = new HashSet<>();
    private final Set<String> weaks = new HashSet<>();
    private int shown = 0;
    int fault = 0;
    int where = -1;
    int answer = -1;

    SlowText(String text) {
        Matcher all = Pattern.compile("[a-z]+|[0-9]+|[^ ]", Pattern.DOTALL).matcher(text);
        while (all.find()) {
            tokens.add(all.group());
            places.add(all.start());
        }
        tokens.add("");
        places.add(text.length());
        boolean goesOn = true;
        while (goesOn && fault == 0) {
            line();
            if (fault == 0) {
                goesOn = !token().isEmpty();
                if (goesOn && !token().equals(";")) {
                    stop(1);
                } else if (goesOn) {
                    at++;
                } else if (shown == 0 || !lines.containsKey("man")) {
                    stop(6);
                }
            }
        }
        answer = fault == 0 ? shown : -1;
    }

    private String token() {
        return tokens.get(at);
    }

    private boolean isWord() {
        return token().matches("[a-z]{1,8}");
    }

    private boolean isWhole() {
        return token().matches("[0-9]{1,4}");
    }

    private void stop(int number) {
        if (fault == 0) {
            fault = number;
            where = places.get(at);
        }
    }

    /** Of all that is wrong at this TOKEN the least number. */
    private boolean isStopped(Set<Integer> wrong) {
        if (!wrong.isEmpty()) {
            stop(new TreeSet<>(wrong).first());
        }
        return fault != 0;
    }

    private void line() {
        String word = token();
        Set<Integer> wrong = new HashSet<>();
        if (!NO_NAMES.contains(word) || word.equals("by")) {
            wrong.add(1);
        }
        int told = lines.getOrDefault(word, 0);
        if (ONCE.contains(word) && told > 0) {
            wrong.add(3);
        }
        if (told >= ROOM.getOrDefault(word, 99)) {
            wrong.add(5);
        }
        if (!word.equals("house") && !lines.containsKey("house") || word.equals("seen") && !lines.containsKey("shows")) {
            wrong.add(6);
        }
        if (isStopped(wrong)) {
            return;
        }
        lines.put(word, told + 1);
        at++;
        if (word.equals("shows")) {
            shows();
        } else if (word.equals("man")) {
            man();
        } else {
            parts(word, LINES.get(word).split(" "));
        }
    }

    private void man() {
        name("NEW", "man", "");
        if (fault == 0 && !Set.of("clean", "early", "late", "misled").contains(token())) {
            stop(1);
        }
        if (fault == 0) {
            boolean misled = token().equals("misled");
            at++;
            parts("man", (misled ? "TOWN slip 0..40" : "slip 0..40").split(" "));
        }
    }

    private void shows() {
        int many = 0;
        boolean goesOn = true;
        while (goesOn && fault == 0) {
            Set<Integer> wrong = new HashSet<>();
            if (!isWord() || NO_NAMES.contains(token())) {
                wrong.add(1);
            } else if (!"reel".equals(sortOf.get(token()))) {
                wrong.add(2);
            }
            if (many == 8) {
                wrong.add(5);
            }
            if (!isStopped(wrong)) {
                many++;
                at++;
                goesOn = token().equals(",");
                at += goesOn ? 1 : 0;
            }
        }
        if (fault == 0 && many == 1 && (token().isEmpty() || token().equals(";"))) {
            stop(6);
        }
        shown = many;
    }

    private void parts(String word, String[] parts) {
        String reel = "";
        int number = -1;
        for (String part : parts) {
            if (fault != 0) {
                return;
            }
            if (part.equals("NEW") || part.equals("REEL") || part.equals("TOWN")) {
                String name = token();
                name(part, word, reel);
                reel = part.equals("TOWN") ? reel : name;
            } else if (part.contains("..")) {
                number = whole(word, part, reel);
                if (word.equals("reel") && part.startsWith("2..")) {
                    framesOf.put(reel, number);
                }
            } else if (!token().equals(part)) {
                stop(1);
            } else {
                at++;
            }
        }
    }

    private void name(String part, String word, String reel) {
        Set<Integer> wrong = new HashSet<>();
        String name = token();
        if (!isWord() || NO_NAMES.contains(name)) {
            wrong.add(1);
        } else if (part.equals("NEW") && sortOf.containsKey(name)) {
            wrong.add(3);
        } else if (!part.equals("NEW") && !part.toLowerCase().equals(sortOf.get(name))) {
            wrong.add(2);
        } else if (word.equals("mark") && part.equals("TOWN") && !marks.add(reel + " " + name)) {
            wrong.add(3);
        }
        if (!isStopped(wrong)) {
            if (part.equals("NEW")) {
                sortOf.put(name, word);
            }
            at++;
        }
    }

    private int whole(String word, String part, String reel) {
        if (!isWhole()) {
            stop(1);
            return -1;
        }
        int frames = framesOf.getOrDefault(reel, 0);
        String[] bounds = part.replace("LAST", "" + (frames - 1)).replace("FRAMES", "" + frames).replace("PLACES", "" + (shown - 1)).split("\\.\\.");
        int number = Integer.parseInt(token());
        Set<Integer> wrong = new HashSet<>();
        if (number < Integer.parseInt(bounds[0]) || number > Integer.parseInt(bounds[1])) {
            wrong.add(4);
        } else if (word.equals("weak") && part.startsWith("0..") && !weaks.add(reel + " " + number)) {
            wrong.add(3);
        }
        if (!isStopped(wrong)) {
            at++;
        }
        return number;
    }
}

import java.util.function.ToLongFunction;

/** Texts that are read, and texts that are refused. */
final class Texts {
    static final String HOUSE = "house apart 1 motor 0 leader 0 burns 1 trim 0 mend 0";
    static final String REELS = HOUSE + ";reel a frames 9 first 0 whole 9;reel b frames 9 first 0 whole 9";
    static final String TOWN = REELS + ";town t trust 5";
    static final String MAN = TOWN + ";man m clean slip 0";
    static final String GOOD = MAN + ";shows a,b";

    private static final int MOST_DIGITS_WRITE = 9999;

    private Texts() {
    }

    /** The place of ^ in the text is where the FAULT is due; ^ itself isn't fed. */
    static void fault(int number, String marked) {
        int place = marked.indexOf('^');
        faultAt(number, place, marked.substring(0, place) + marked.substring(place + 1));
    }

    static void faultAt(int number, int place, String text) {
        ReelChange x = new ReelChange();
        Check.due("house of " + text, Check.house(x, text), -1);
        Check.due("trouble of " + text, x.trouble(), 4);
        Check.due("fault of " + text, x.fault(), number);
        Check.due("where of " + text, x.where(), place);
        Check.due("size(12) of " + text, x.size(12), 0);
        Check.due("size(17) of " + text, x.size(17), 0);
    }

    static ReelChange fine(int places, String text) {
        ReelChange x = new ReelChange();
        Check.due("house of " + text, Check.house(x, text), places);
        Check.due("trouble of " + text, x.trouble(), 0);
        Check.due("fault of " + text, x.fault(), 0);
        Check.due("where of " + text, x.where(), -1);
        return x;
    }

    /** The text so many times; # is a letter that goes up, @ a number. */
    static String times(String text, int n) {
        return times(text, n, 'a');
    }

    static String times(String text, int n, char first) {
        StringBuilder all = new StringBuilder();
        for (int i = 0; i < n; i++) {
            all.append(text.replace('#', (char) (first + i)).replace("@", Integer.toString(i)));
        }
        return all.toString();
    }

    /**
     * A WHOLE of a good text, at #: the least and the most are read, and told by the call as they are; the first beyond on
     * either side is FAULT 4 at it (no digits write a number below 0, nor four digits one above 9,999: FORM at it).
     */
    static void bounds(String text, int least, int most, ToLongFunction<ReelChange> told) {
        for (int value : new int[] {least, Math.min(least + 1, most), Math.max(most - 1, least), most}) {
            ReelChange x = new ReelChange();
            String good = text.replace("#", Integer.toString(value));
            Check.due("is a house: " + good, Check.house(x, good) > 0, true);
            Check.due("told by " + good, told.applyAsLong(x), value);
        }
        beyond(text, least, most);
    }

    /** Likewise of a WHOLE that no call tells. */
    static void bounds(String text, int least, int most) {
        for (int value : new int[] {least, most}) {
            String good = text.replace("#", Integer.toString(value));
            Check.due("is a house: " + good, Check.house(new ReelChange(), good) > 0, true);
        }
        beyond(text, least, most);
    }

    private static void beyond(String text, int least, int most) {
        int place = text.indexOf('#');
        faultAt(least > 0 ? 4 : 1, place, text.replace("#", Integer.toString(least - 1)));
        faultAt(most < MOST_DIGITS_WRITE ? 4 : 1, place, text.replace("#", Integer.toString(most + 1)));
    }
}

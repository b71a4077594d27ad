/** Edges of promises 3 and 5: the FAULTS with their places. */
final class FaultEdges {
    private static final String FRAMES = " frames 9 first 0 whole 9";

    /**
     * A HOUSE with each sort of LINE, TOKEN by TOKEN. Ahead of what stands there: n a NAME that is told, o one that was,
     * w a WHOLE, k the KIND of a man, else the WORD or sign itself.
     */
    private static final String[][] LINES = {
        {"house", "apart", "w1", "motor", "w0", "leader", "w0", "burns", "w1", "trim", "w0", "mend", "w0"},
        {"reel", "na", "frames", "w9", "first", "w0", "whole", "w9"},
        {"reel", "nb", "frames", "w9", "first", "w0", "whole", "w9"},
        {"town", "nt", "trust", "w5"},
        {"mark", "oa", "w8", "by", "ot"},
        {"join", "oa", "w8", "lacks", "w9"},
        {"weak", "ob", "w3", "snaps", "w9"},
        {"man", "nm", "kclean", "slip", "w0"},
        {"man", "nn", "kmisled", "ot", "slip", "w0"},
        {"shows", "oa", ",", "ob", ",", "oa"},
        {"boys", "w1", "ride", "w1", "falls", "w0"},
        {"seen", "w2", "black", "w0", "lost", "w0"},
        {"scratch", "ob", "w8"}
    };

    private static final int SHOWS = 9;

    private FaultEdges() {
    }

    static void all() {
        endsTooSoon();
        otherTokens();
        otherLetters();
        behindTheEnd();
        notTold();
        toldAgain();
        onceAlone();
        outOfBounds();
        many();
        lacks();
        leastOfOnePlace();
        firstFromTheLeft();
    }

    private static String token(String told) {
        boolean isMarked = told.length() > 1 && "nowk".indexOf(told.charAt(0)) >= 0 && (told.length() == 2 || told.charAt(0) == 'k');
        return isMarked ? told.substring(1) : told;
    }

    private static char sort(String told) {
        return token(told).equals(told) ? told.charAt(0) == ',' ? ',' : 'l' : told.charAt(0);
    }

    private static String line(String[] tokens) {
        StringBuilder line = new StringBuilder();
        for (String told : tokens) {
            line.append(line.length() > 0 ? " " : "").append(token(told));
        }
        return line.toString();
    }

    /** The lines ahead of that one, with ; behind. */
    private static String ahead(int line) {
        StringBuilder text = new StringBuilder();
        for (int i = 0; i < line; i++) {
            text.append(line(LINES[i])).append("; ");
        }
        return text.toString();
    }

    private static void endsTooSoon() {
        Check.holds(3, "1 FORM: the first byte that begins no TOKEN, or TOKEN with which no HOUSE goes on (the end: its place).");
        for (int i = 0; i < LINES.length; i++) {
            StringBuilder text = new StringBuilder(ahead(i));
            for (int k = 0; k < LINES[i].length; k++) {
                boolean isReelOfShows = i == SHOWS && k > 0 && k % 2 == 0;
                if (!isReelOfShows) {
                    Texts.faultAt(1, text.length(), text.toString());
                    Texts.faultAt(1, text.length() + 1, text + " ");
                    Texts.faultAt(1, text.length(), text + ";");
                } else if (k == 2) {
                    Texts.faultAt(6, text.length(), text.toString());
                } else {
                    Texts.fine(k / 2, text.toString());
                }
                text.append(token(LINES[i][k])).append(' ');
            }
            if (i < SHOWS) {
                Texts.faultAt(6, text.length(), text.toString());
            } else {
                Texts.fine(3, text.toString());
            }
        }
    }

    /** Another TOKEN in place of each. */
    private static void otherTokens() {
        Check.holds(5, "TOKEN with which no HOUSE goes on");
        String[] others = {"7", "0000", ",", "by", "house", "zzz", "framess", ".", "A", "a1"};
        for (int i = 0; i < LINES.length; i++) {
            StringBuilder text = new StringBuilder(ahead(i));
            for (int k = 0; k < LINES[i].length; k++) {
                for (String other : others) {
                    int number = faultOf(sort(LINES[i][k]), other, token(LINES[i][k]), k);
                    if (number > 0) {
                        Texts.faultAt(number, text.length(), text + other + " " + token(LINES[i][k]));
                    }
                }
                text.append(token(LINES[i][k])).append(' ');
            }
        }
    }

    /** A WORD that must stand there, but for one letter: its first, its last, one more, one fewer. */
    private static void otherLetters() {
        Check.holds(3, "TOKEN with which no HOUSE goes on");
        for (int i = 0; i < LINES.length; i++) {
            StringBuilder text = new StringBuilder(ahead(i));
            for (int k = 0; k < LINES[i].length; k++) {
                String word = token(LINES[i][k]);
                char sort = sort(LINES[i][k]);
                if (sort == 'l' || sort == 'k') {
                    String rest = text.toString();
                    int place = text.length();
                    Texts.faultAt(1, place, rest + "q" + word.substring(1) + " 1");
                    Texts.faultAt(1, place, rest + word.substring(0, word.length() - 1) + "q 1");
                    Texts.faultAt(1, place, rest + word + "q 1");
                    Texts.faultAt(1, place, rest + word.substring(0, word.length() - 1) + " 1");
                    Texts.faultAt(1, place, rest + word.substring(1) + " 1");
                }
                text.append(word).append(' ');
            }
        }
        for (String kind : new String[] {"early", "late"}) {
            Texts.fault(1, Texts.TOWN + ";man m ^q" + kind.substring(1) + " slip 0");
            Texts.fault(1, Texts.TOWN + ";man m ^" + kind + "q slip 0");
        }
    }

    /** The FAULT of a TOKEN in place of another; 0 where it depends on what it is. */
    private static int faultOf(char sort, String other, String due, int k) {
        boolean isWord = other.equals("zzz") || other.equals("framess");
        boolean isWhole = other.equals("7") || other.equals("0000");
        switch (sort) {
            case 'n':
                return isWord || other.equals("a1") ? 0 : 1;
            case 'o':
                return other.equals("a1") ? 0 : isWord ? 2 : 1;
            case 'w':
                return isWhole ? 0 : 1;
            default:
                return other.equals(due) || k == 0 && other.equals("house") ? 0 : 1;
        }
    }

    /** Behind a LINE nothing goes on but ; and the end. */
    private static void behindTheEnd() {
        Check.holds(3, "LINE {; LINE}");
        for (int i = 0; i < LINES.length; i++) {
            String text = ahead(i) + line(LINES[i]);
            for (String other : new String[] {"7", "by", "a", "house", "reel", "zzz", ".", "-"}) {
                Texts.faultAt(1, text.length() + 1, text + " " + other);
            }
            if (i != SHOWS) {
                Texts.faultAt(1, text.length(), text + ",");
            }
            Texts.faultAt(1, text.length() + 1, text + ";");
            Texts.faultAt(1, text.length() + 1, text + ";;");
        }
    }

    private static void notTold() {
        Check.holds(3, "2 a NAME that isn't told, or is of another sort than must stand there; at it.");
        for (String reel : new String[] {"c", "t", "m", "ab", "frames"}) {
            Texts.fault(2, Texts.GOOD + ";mark ^" + reel + " 0 by t");
            Texts.fault(2, Texts.GOOD + ";join ^" + reel + " 0 lacks 1");
            Texts.fault(2, Texts.GOOD + ";weak ^" + reel + " 0 snaps 1");
            Texts.fault(2, Texts.GOOD + ";scratch ^" + reel + " 0");
            Texts.fault(2, Texts.MAN + ";shows ^" + reel + ",a");
            Texts.fault(2, Texts.MAN + ";shows a,^" + reel);
        }
        for (String town : new String[] {"u", "a", "m", "tt", "slip"}) {
            Texts.fault(2, Texts.GOOD + ";mark a 0 by ^" + town);
            Texts.fault(2, Texts.GOOD + ";man n misled ^" + town + " slip 0");
        }
        Texts.fault(2, Texts.GOOD + ";man n misled ^n slip 0");
    }

    private static void toldAgain() {
        Check.holds(3, "3 a NAME told again; at it");
        for (String name : new String[] {"a", "b", "t", "m"}) {
            Texts.fault(3, Texts.GOOD + ";reel ^" + name + FRAMES);
            Texts.fault(3, Texts.GOOD + ";town ^" + name + " trust 5");
            Texts.fault(3, Texts.GOOD + ";man ^" + name + " clean slip 0");
        }
        Texts.fault(3, Texts.HOUSE + ";reel abcdefgh" + FRAMES + ";town ^abcdefgh trust 5");
        Texts.fine(2, Texts.GOOD + ";reel aa" + FRAMES + ";town tt trust 5;man mm clean slip 0;reel ba" + FRAMES + ";reel ab" + FRAMES);
        // sixteen NAMES are all that there may be
        String all = Texts.HOUSE + Texts.times(";reel r#" + FRAMES, 8) + Texts.times(";town t# trust 5", 4) + Texts.times(";man m# clean slip 0", 4);
        Texts.fine(2, all + ";shows ra,rh;mark rh 1 by td");
        ReelChange town = Texts.fine(2, Texts.HOUSE + Texts.times(";man m# clean slip 0", 4) + Texts.times(";reel r#" + FRAMES, 8) + Texts.times(";town t# trust 5", 4)
                + ";shows ra,rh;mark rh 1 by td");
        Check.due("the sixteenth is a town", town.mark(7, 3), 1);
        ReelChange reel = Texts.fine(2, Texts.HOUSE + Texts.times(";man m# clean slip 0", 4) + Texts.times(";town t# trust 5", 4) + Texts.times(";reel r#" + FRAMES, 8) + ";shows rh,rh");
        Check.due("the sixteenth is a reel", reel.shows(0), 7);
        Texts.fault(3, Texts.HOUSE + Texts.times(";reel r#" + FRAMES, 8) + Texts.times(";town t# trust 5", 4) + Texts.times(";man m# clean slip 0", 3) + ";man ^mc late slip 0");
        Texts.fault(3, Texts.HOUSE + Texts.times(";reel r#" + FRAMES, 8) + Texts.times(";town t# trust 5", 3) + Texts.times(";man m# clean slip 0", 4) + ";town ^md trust 1");
    }

    private static void onceAlone() {
        Check.holds(3, "a second house, shows, boys: at that WORD");
        Texts.fault(3, Texts.HOUSE + ";^house");
        Texts.fault(3, Texts.HOUSE + ";^" + Texts.HOUSE);
        Texts.fault(3, Texts.GOOD + ";^house apart 0");
        Texts.fault(3, Texts.GOOD + ";^shows b,a");
        Texts.fault(3, Texts.GOOD + ";^shows 7");
        Texts.fault(3, Texts.GOOD + ";boys 1 ride 1 falls 0;^boys 9");
        Texts.fault(3, Texts.HOUSE + ";boys 1 ride 1 falls 0 ; ^boys");
    }

    private static void outOfBounds() {
        Check.holds(3, "4 a WHOLE out of bounds; at it.");
        Texts.fault(4, "house apart   ^0051 motor 0");
        Texts.fault(4, "house apart^51motor0");
        Texts.fault(4, "house apart ^0000;");
        Texts.fault(4, "house apart ^9999");
        Texts.fine(2, Texts.GOOD.replace("apart 1", "apart 0050"));
        Texts.fault(4, Texts.GOOD + ";mark a   ^9");
        Texts.fault(4, Texts.GOOD + ";boys 4 ride 2000 falls ^51");
        Texts.fault(4, Texts.GOOD + ";seen 1 black 9999 lost 9999;seen ^2");
        Check.holds(3, "house apart WHOLE motor WHOLE leader WHOLE burns WHOLE trim WHOLE mend WHOLE (1 .. 50 frames; 0 .. 50; 0 .. 99; 1 .. 9,999; 0 .. 999; 0 .. 999), ahead of all others");
        Texts.fault(6, "^reel a" + FRAMES + ";" + Texts.HOUSE);
        Texts.fault(6, "^man m clean slip 0;" + Texts.GOOD);
        Texts.fault(1, "^;" + Texts.GOOD);
    }

    /** One LINE more of each sort, whatever comes behind its first WORD. */
    private static void many() {
        Check.holds(3, "5 MANY: a LINE more of its sort than there is room for, at its first WORD");
        String towns = Texts.HOUSE + Texts.times(";reel #" + FRAMES, 4) + Texts.times(";town t# trust 1", 4);
        String[][] sorts = {
            {Texts.HOUSE + Texts.times(";reel #" + FRAMES, 8), "reel"},
            {Texts.REELS + Texts.times(";town t# trust 1", 4), "town"},
            {towns + Texts.times(";mark a 1 by t#", 4) + Texts.times(";mark b 1 by t#", 4) + Texts.times(";mark c 1 by t#", 4), "mark"},
            {Texts.GOOD + Texts.times(";join a 1 lacks 1", 8), "join"},
            {Texts.GOOD + Texts.times(";weak b @ snaps 1", 6), "weak"},
            {Texts.TOWN + Texts.times(";man m# late slip 1", 4), "man"},
            {Texts.GOOD + Texts.times(";seen 1 black 0 lost 0", 6), "seen"},
            {Texts.GOOD + Texts.times(";scratch a 1", 6), "scratch"}
        };
        for (String[] sort : sorts) {
            for (String behind : new String[] {"", " ", " a", " .", " 99", ";", " a 0 by t", " by"}) {
                Texts.fault(5, sort[0] + ";^" + sort[1] + behind);
                Texts.fault(5, sort[0] + " ;  ^" + sort[1] + behind);
            }
        }
    }

    private static void lacks() {
        Check.holds(3, "6 LACKS: any LINE ahead of the house, a seen ahead of shows; at its WORD");
        for (String word : new String[] {"reel", "town", "mark", "join", "weak", "man", "shows", "boys", "seen", "scratch"}) {
            Texts.fault(6, "^" + word);
            Texts.fault(6, "  ^" + word + " a;" + Texts.GOOD);
        }
        Texts.fault(1, "^by a;" + Texts.GOOD);
        Check.holds(3, "one REEL alone in shows: at ; or the end behind it");
        Texts.fault(6, Texts.MAN + ";shows a^");
        Texts.fault(6, Texts.MAN + ";shows a   ^");
        Texts.fault(6, Texts.MAN + ";shows b^;");
        Texts.fault(6, Texts.MAN + ";shows b  ^;shows a,b");
        Texts.fault(1, Texts.MAN + ";shows a ^b");
        Texts.fault(1, Texts.MAN + ";shows a ^7");
        Texts.fault(1, Texts.MAN + ";shows a^.");
        Check.holds(3, "at the end: no shows, no man.");
        Texts.fault(6, Texts.HOUSE + "^");
        Texts.fault(6, Texts.MAN + "^");
        Texts.fault(6, Texts.MAN + "  ^");
        Texts.fault(6, Texts.TOWN + ";shows a,b^");
        Texts.fault(6, Texts.TOWN + ";shows a,b ^");
        Texts.fault(6, Texts.TOWN + "^");
        Texts.fine(2, Texts.TOWN + ";shows a,b;man m late slip 0");
    }

    private static void leastOfOnePlace() {
        Check.holds(3, "FAULTS, the first that is met from the left, of one place the least number");
        Texts.fault(1, Texts.MAN + ";^");
        Texts.fault(1, Texts.MAN + ";shows a,^");
        Texts.fault(1, Texts.MAN + ";shows a,b;^");
        Texts.fault(1, Texts.HOUSE + ";^");
        String nine = Texts.MAN + ";shows a,a,a,a,a,a,a,a,";
        Texts.fault(1, nine + "^");
        Texts.fault(1, nine + "^by");
        Texts.fault(1, nine + "^9");
        Texts.fault(1, nine + "^aaaaaaaaa");
        Texts.fault(2, nine + "^c");
        Texts.fault(2, nine + "^t");
        Texts.fault(5, nine + "^b");
        Texts.fault(1, Texts.GOOD + ";mark a 1 by t;mark a 1 by ^by");
        Texts.fault(2, Texts.GOOD + ";mark a 1 by t;mark a 1 by ^m");
        Texts.fault(1, "^");
    }

    private static void firstFromTheLeft() {
        Check.holds(5, "the first that is met from the left");
        Texts.fault(4, "house apart ^0 . ;");
        Texts.fault(4, "house apart ^51motor.");
        Texts.fault(6, "^reel .");
        Texts.fault(2, Texts.GOOD + ";join ^c 99 lacks 0;;");
        Texts.fault(3, Texts.GOOD + ";reel ^a frames 1 first 1 whole .");
        Texts.fault(4, Texts.GOOD + ";mark a ^9 by u");
        Texts.fault(4, Texts.GOOD + ";reel c frames ^1 first 5 whole 0");
        Texts.fault(4, Texts.GOOD + ";reel c frames 5 first ^5 whole 4");
        Texts.fault(4, Texts.GOOD + ";reel c frames 5 first 4 whole ^4");
        Texts.fault(5, Texts.GOOD + Texts.times(";scratch a 1", 6) + ";^scratch .");
        Texts.fault(4, Texts.GOOD + ";weak a 1 snaps 5;weak a ^9 snaps 0");
        Texts.fault(3, Texts.GOOD + ";weak a 1 snaps 5;weak a ^1 snaps 0");
        Texts.fault(4, Texts.GOOD + ";weak a 1 snaps ^0;weak a 1");
    }
}

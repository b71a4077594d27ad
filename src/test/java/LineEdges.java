/** Edges of promise 3: the bounds of every WHOLE, how many LINES of a sort there may be, TOKENS, NAMES. */
final class LineEdges {
    private static final String FRAMES = " frames 9 first 0 whole 9";

    private LineEdges() {
    }

    static void all() {
        houseLine();
        reelLine();
        townLine();
        markLine();
        joinLine();
        weakLine();
        manLine();
        showsLine();
        boysLine();
        seenLine();
        scratchLine();
        fullTape();
        blanks();
        words();
        wholes();
        names();
    }

    private static void houseLine() {
        Check.holds(3, "house apart WHOLE motor WHOLE leader WHOLE burns WHOLE trim WHOLE mend WHOLE (1 .. 50 frames; 0 .. 50; 0 .. 99; 1 .. 9,999; 0 .. 999; 0 .. 999)");
        String rest = Texts.GOOD.substring(Texts.HOUSE.length());
        Texts.bounds("house apart # motor 0 leader 0 burns 1 trim 0 mend 0" + rest, 1, 50, x -> x.size(0));
        Texts.bounds("house apart 1 motor # leader 0 burns 1 trim 0 mend 0" + rest, 0, 50, x -> x.size(1));
        Texts.bounds("house apart 1 motor 0 leader # burns 1 trim 0 mend 0" + rest, 0, 99, x -> x.size(2));
        Texts.bounds("house apart 1 motor 0 leader # burns 1 trim 0 mend 0" + rest, 0, 99, x -> x.thread(1));
        Texts.bounds("house apart 1 motor 0 leader 0 burns # trim 0 mend 0" + rest, 1, 9999, x -> x.size(3));
        Texts.bounds("house apart 1 motor 0 leader 0 burns 1 trim # mend 0" + rest, 0, 999, x -> x.size(4));
        Texts.bounds("house apart 1 motor 0 leader 0 burns 1 trim 0 mend #" + rest, 0, 999, x -> x.size(5));
    }

    private static void reelLine() {
        Check.holds(3, "reel NAME frames WHOLE first WHOLE whole WHOLE (2 .. 2,000; its true FIRST dot, 0 up to frames less 1;"
                + " how many it had when it was new, frames up to 2,000; up to 8)");
        String end = ";man m clean slip 0;shows a,a";
        Texts.bounds(Texts.HOUSE + ";reel a frames # first 0 whole 2000" + end, 2, 2000, x -> x.reel(0, 0));
        Texts.bounds(Texts.HOUSE + ";reel a frames 2 first # whole 9" + end, 0, 1, x -> x.reel(0, 1));
        Texts.bounds(Texts.HOUSE + ";reel a frames 2000 first # whole 2000" + end, 0, 1999, x -> x.reel(0, 1));
        Texts.bounds(Texts.HOUSE + ";reel a frames 2 first 0 whole #" + end, 2, 2000, x -> x.reel(0, 2));
        Texts.bounds(Texts.HOUSE + ";reel a frames 1999 first 0 whole #" + end, 1999, 2000, x -> x.reel(0, 2));
        Texts.bounds(Texts.HOUSE + ";reel a frames 2000 first 0 whole #" + end, 2000, 2000, x -> x.reel(0, 2));
        String eight = Texts.HOUSE + Texts.times(";reel # frames 1@ first @ whole 2@", 8);
        ReelChange x = Texts.fine(2, eight + ";man m clean slip 0;shows h,a");
        Check.row("the eighth, and no ninth", new long[] {x.size(6), x.reel(7, 0), x.reel(7, 1), x.reel(7, 2), x.reel(8, 0), x.shows(0)}, 8, 17, 7, 27, -1, 7);
        Texts.fault(5, eight + ";^reel i frames 9 first 0 whole 9" + end);
        ReelChange one = Texts.fine(2, Texts.HOUSE + ";reel a" + FRAMES + end);
        Check.row("one is enough", new long[] {one.size(6), one.reel(0, 0), one.reel(1, 0)}, 1, 9, -1);
    }

    private static void townLine() {
        Check.holds(3, "town NAME trust WHOLE (1 .. 9 tenths; up to 4)");
        // of FIRST and a mark far from it the mark is meant by trust tenths
        Texts.bounds(Texts.REELS + ";town t trust #;mark a 8 by t;man m clean slip 0;shows a,b", 1, 9, x -> x.truly(0, 8, false) * 10 / x.truly(0, 8, true));
        String four = Texts.REELS + Texts.times(";town t# trust 5", 4);
        ReelChange x = Texts.fine(2, four + ";mark a 3 by td;man m misled td slip 0;shows a,b");
        Check.row("the fourth, and no fifth", new long[] {x.size(7), x.mark(0, 3), x.believes(0, 0), x.mark(0, 4)}, 4, 3, 3, -1);
        Texts.fault(5, four + ";^town u trust 5;man m clean slip 0;shows a,b");
        ReelChange none = Texts.fine(2, Texts.REELS + ";man m clean slip 0;shows a,b");
        Check.row("none", new long[] {none.size(7), none.mark(0, 0)}, 0, -1);
    }

    private static void markLine() {
        Check.holds(3, "mark REEL WHOLE by TOWN (a frame, 0 up to frames less 1; one of a town on a reel; up to 12)");
        Texts.bounds(Texts.GOOD + ";mark a # by t", 0, 8, x -> x.mark(0, 0));
        String towns = Texts.HOUSE + Texts.times(";reel #" + FRAMES, 4) + Texts.times(";town t# trust 1", 4);
        String twelve = towns + Texts.times(";mark a @ by t#", 4) + Texts.times(";mark b @ by t#", 4) + Texts.times(";mark c 5 by t#", 4);
        String end = ";man m clean slip 0;shows a,b";
        ReelChange x = Texts.fine(2, twelve + end);
        Check.row("the twelfth", new long[] {x.size(8), x.mark(2, 3), x.reel(2, 3), x.reel(3, 3), x.mark(3, 0)}, 12, 5, 4, 0, -2);
        Texts.fault(5, twelve + ";^mark d 0 by ta" + end);
        Check.holds(3, "a TOWN that has a mark on that reel; at it");
        Texts.fault(3, Texts.GOOD + ";mark a 1 by t;mark a 1 by ^t");
        Texts.fault(3, Texts.GOOD + ";mark a 1 by t;mark a 0 by ^t");
        Texts.fault(3, Texts.GOOD + ";mark a 0 by t;mark b 0 by t;mark b 5 by ^t");
        ReelChange y = Texts.fine(2, Texts.GOOD + ";town u trust 1;mark a 1 by t;mark b 1 by t;mark a 1 by u;mark b 2 by u");
        Check.row("another reel, another town", new long[] {y.mark(0, 0), y.mark(1, 0), y.mark(0, 1), y.mark(1, 1)}, 1, 1, 1, 2);
    }

    private static void joinLine() {
        Check.holds(3, "join REEL WHOLE lacks WHOLE (a frame, likewise; 1 .. 99; up to 8)");
        String long200 = Texts.GOOD.replace("reel a frames 9 first 0 whole 9", "reel a frames 9 first 0 whole 209");
        Texts.bounds(Texts.GOOD + ";join b # lacks 1", 0, 8);
        Texts.bounds(long200 + ";join a 8 lacks #", 1, 99, x -> 200 - x.missing(0, true));
        ReelChange x = Texts.fine(2, Texts.GOOD + Texts.times(";join a 8 lacks 3@", 8));
        Check.row("eight, of one frame too", new long[] {x.size(9), x.reel(0, 4), x.words(0)}, 8, 8, 8);
        Texts.fault(5, Texts.GOOD + Texts.times(";join a 8 lacks 1", 8) + ";^join b 0 lacks 1");
    }

    private static void weakLine() {
        Check.holds(3, "weak REEL WHOLE snaps WHOLE (a frame, once; 1 .. 99 in a hundred; up to 6)");
        // a mark where the weak place is comes 2 sooner by mending, one ahead of it doesn't
        for (int frame = 2; frame <= 8; frame++) {
            ReelChange x = Texts.fine(2, Texts.GOOD + ";town u trust 5;mark a " + frame + " by t;mark a " + (frame - 1) + " by u;weak a " + frame + " snaps 1");
            x.mend(0);
            Check.row("weak at " + frame, new long[] {x.mark(0, 0), x.mark(0, 1)}, frame - 2, Math.min(frame - 1, 6));
        }
        Texts.fine(2, Texts.GOOD + ";weak a 0 snaps 1");
        Texts.fault(1, Texts.GOOD + ";weak a ^-1 snaps 1");
        Texts.fault(4, Texts.GOOD + ";weak a ^9 snaps 1");
        Texts.bounds(Texts.GOOD + ";weak a 8 snaps #", 1, 99, x -> x.wears(0, 50, false) / x.wears(0, 50, true));
        String six = Texts.GOOD + Texts.times(";weak a @ snaps 9", 6);
        ReelChange x = Texts.fine(2, six);
        Check.row("six", new long[] {x.size(10), x.reel(0, 5), x.led(5), x.holds(5, 1, false), x.holds(6, 1, false)}, 6, 6, 5, 91, -1);
        Texts.fault(5, six + ";^weak b 0 snaps 1");
        Check.holds(3, "a weak place again: at its WHOLE");
        Texts.fault(3, Texts.GOOD + ";weak a 4 snaps 1;weak a ^4 snaps 1");
        Texts.fault(3, Texts.GOOD + ";weak b 0 snaps 1;weak a 0 snaps 2;weak b ^0000");
        ReelChange y = Texts.fine(2, Texts.GOOD + ";weak a 4 snaps 1;weak a 3 snaps 1;weak a 5 snaps 1;weak b 4 snaps 1");
        Check.row("one ahead, one behind, another reel", new long[] {y.size(10), y.reel(0, 5), y.reel(1, 5)}, 4, 3, 1);
    }

    private static void manLine() {
        Check.holds(3, "man NAME KIND slip WHOLE (KIND: clean, early, late, or misled TOWN; 0 .. 40; up to 4)");
        String print = Texts.HOUSE + ";reel a frames 90 first 20 whole 90;town t trust 5;town u trust 5;mark a 30 by t;mark a 10 by u;shows a,a";
        Texts.bounds(print + ";man m clean slip #", 0, 40, x -> x.starts(0, 0) - 20);
        Texts.bounds(print + ";man m early slip #", 0, 40, x -> x.starts(0, 0) - 10);
        Texts.bounds(print + ";man m late slip #", 0, 40, x -> x.starts(0, 0) - 30);
        Texts.bounds(print + ";man m misled t slip #", 0, 40, x -> x.starts(0, 0) - 30);
        Texts.bounds(print + ";man m misled u slip #", 0, 40, x -> x.starts(0, 0) - 10);
        Texts.fault(1, print + ";man m ^misledt slip 0");
        Texts.fault(1, print + ";man m ^cleaned slip 0");
        Texts.fault(1, print + ";man m clean ^u slip 0");
        Texts.fault(2, print + ";man m misled ^slip 0");
        String four = print + Texts.times(";man m# late slip @", 4);
        ReelChange x = Texts.fine(2, four);
        Check.row("the fourth, and no fifth", new long[] {x.size(11), x.starts(3, 0), x.starts(4, 0)}, 4, 33, -1);
        Texts.fault(5, four + ";^man n late slip 0");
        ReelChange one = Texts.fine(2, print + ";man m clean slip 0");
        Check.row("one", new long[] {one.size(11), one.starts(0, 0), one.starts(1, 0)}, 1, 20, -1);
    }

    private static void showsLine() {
        Check.holds(3, "shows REEL {, REEL} (2 to 8 of these; once)");
        StringBuilder shown = new StringBuilder("a");
        Texts.fault(6, Texts.MAN + ";shows a^;scratch b 0");
        Texts.fault(6, Texts.MAN + ";shows a^");
        for (int many = 2; many <= 8; many++) {
            shown.append(many % 2 == 0 ? ",b" : ",a");
            ReelChange x = Texts.fine(many, Texts.MAN + ";shows " + shown);
            Check.row("shows " + shown, new long[] {x.size(12), x.shows(many - 1), x.shows(many)}, many, many % 2 == 0 ? 1 : 0, -1);
        }
        Check.holds(3, "a ninth REEL of shows: at it");
        Texts.fault(5, Texts.MAN + ";shows " + shown + ",^a");
        Texts.fault(5, Texts.MAN + ";shows " + shown + " , ^b,a");
        Texts.fault(3, Texts.MAN + ";shows a,b;^shows a,b");
        Texts.fault(3, Texts.MAN + ";shows a,b;^shows");
    }

    private static void boysLine() {
        Check.holds(3, "boys WHOLE ride WHOLE falls WHOLE (1 .. 4; 1 .. 2,000; 0 .. 50 in a hundred; once)");
        String six = Texts.HOUSE.replace("leader 0", "leader 1") + ";reel a frames 9 first 8 whole 9;man m clean slip 0;shows a,a,a,a,a,a";
        String two = six.replace("a,a,a,a,a,a", "a,a");
        Texts.bounds(six + ";boys # ride 20 falls 0", 1, 4, LineEdges::boysTold);
        // two reels of 9 and two boys: each is there 9 and the ride behind its beginning
        Texts.bounds(two + ";boys 2 ride # falls 0", 1, 2000, x -> x.apart(0, 0) - 9);
        Texts.bounds(two + ";boys 1 ride 1 falls #", 0, 50,
                x -> Math.round(100 - 100 * Math.sqrt((double) x.well(false) / x.well(true))));
        Texts.fault(3, six + ";boys 1 ride 1 falls 0;^boys 1 ride 1 falls 0");
        ReelChange none = Texts.fine(6, six);
        Check.row("none told", new long[] {none.apart(0, 1), none.trouble()}, -1, 6);
    }

    /** By 1, 2, 3, 4 boys APART is 184, 73, 42, 33, so it tells how many boys are told. */
    private static long boysTold(ReelChange x) {
        int apart = x.apart(0, 0);
        for (int boys = 1; boys <= 4; boys++) {
            if (x.apart(0, boys) == apart) {
                return boys;
            }
        }
        return -9;
    }

    private static void seenLine() {
        Check.holds(3, "seen WHOLE black WHOLE lost WHOLE (a place of the shows told, but 0; 0 .. 9,999, 0 .. 9,999; up to 6: SIGNS)");
        String print = Texts.HOUSE.replace("leader 0", "leader 1") + ";reel a frames 9 first 8 whole 9;man m clean slip 0;shows ";
        Texts.bounds(print + "a,a;seen # black 0 lost 0", 1, 1, LineEdges::placeSeen);
        Texts.bounds(print + "a,a,a;seen # black 0 lost 0", 1, 2, LineEdges::placeSeen);
        Texts.bounds(print + "a,a,a,a,a,a,a,a;seen # black 0 lost 0", 1, 7, LineEdges::placeSeen);
        Texts.bounds(print + "a,a;seen 1 black # lost 0", 0, 9999);
        Texts.bounds(print + "a,a;seen 1 black 0 lost #", 0, 9999);
        ReelChange black = Texts.fine(2, print + "a,a;seen 1 black 197 lost 0;seen 1 black 198 lost 0;seen 1 black 199 lost 0;seen 1 black 198 lost 1");
        black.threads(1, 199);
        Check.due("198 are BLACK", black.signs(0), 2);
        ReelChange lost = Texts.fine(2, print.replace("leader 1", "leader 0") + "a,a;seen 1 black 0 lost 0;seen 1 black 0 lost 2;seen 1 black 1 lost 1;seen 1 black 0 lost 1");
        Check.due("1 is LOST", lost.signs(0), 8);
        String six = print + "a,a,a" + Texts.times(";seen 1 black 0 lost 0", 5) + ";seen 2 black 0 lost 0";
        ReelChange x = Texts.fine(3, six);
        Check.row("six", new long[] {x.size(13), x.signs(0)}, 6, 63);
        Texts.fault(5, six + ";^seen 1 black 0 lost 0");
        Check.holds(3, "a seen ahead of shows; at its WORD");
        Texts.fault(6, Texts.MAN + ";^seen 1 black 0 lost 0;shows a,b");
        Texts.fault(6, Texts.MAN + ";^seen");
        Texts.fine(2, Texts.MAN + ";shows a,b;seen 1 black 0 lost 0");
    }

    /** The place by whose THREAD the first SIGN is so no more. */
    private static long placeSeen(ReelChange x) {
        for (int place = 1; place < x.size(12); place++) {
            x.threads(place, 2);
            boolean isIt = x.signs(0) == 0;
            x.undo();
            if (isIt) {
                return place;
            }
        }
        return -9;
    }

    private static void scratchLine() {
        Check.holds(3, "scratch REEL WHOLE (a frame; nobody knows by whom; up to 6)");
        Texts.bounds(Texts.GOOD + ";mark b 0 by t;scratch a #", 0, 8, x -> x.far(0));
        ReelChange x = Texts.fine(2, Texts.GOOD + ";mark b 0 by t" + Texts.times(";scratch a @", 6));
        Check.row("six", new long[] {x.size(14), x.far(5), x.who(5), x.far(6), x.trouble()}, 6, 5, 0, -1, 1);
        Texts.fault(5, Texts.GOOD + Texts.times(";scratch a 1", 6) + ";^scratch b 1");
    }

    /** As many LINES of all sorts as there may be (but for scratches, of which three more would be beyond THE TAPE). */
    private static void fullTape() {
        Check.holds(3, "LINE {; LINE}");
        String text = "house apart1motor0leader0burns1trim0mend0" + Texts.times(";reel # frames2first0whole2", 8)
                + Texts.times(";town # trust5", 4, 'i') + Texts.times(";mark a0by #", 4, 'i') + Texts.times(";mark b1by #", 4, 'i')
                + Texts.times(";mark c0by #", 4, 'i') + Texts.times(";join h1lacks9", 8) + Texts.times(";weak # 1snaps9", 6)
                + Texts.times(";man # late slip@", 4, 'm') + ";shows a,b,c,d,e,f,g,h;boys4ride1falls0"
                + Texts.times(";seen7black0lost0", 6) + Texts.times(";scratch h1", 2);
        Check.due("it goes on THE TAPE", text.length() <= 900, true);
        ReelChange x = Texts.fine(8, text);
        Check.row("all of it", new long[] {x.size(6), x.size(7), x.size(8), x.size(9), x.size(10), x.size(11), x.size(12), x.size(13), x.size(14)},
                8, 4, 12, 8, 6, 4, 8, 6, 2);
        Check.row("the last of each", new long[] {x.reel(7, 0), x.mark(2, 3), x.reel(7, 4), x.led(5), x.believes(3, 2), x.shows(7), x.size(3), x.well(true)},
                2, 0, 8, 5, 0, 7, 1, 1);
    }

    private static void blanks() {
        Check.holds(3, "blanks, 32, part TOKENS and mean nothing else");
        Texts.fine(2, Texts.GOOD.replace(" ", "  ").replace(";", " ; ").replace(",", " , "));
        Texts.fine(2, "   " + Texts.GOOD + "   ");
        Texts.fine(2, Texts.GOOD.replaceAll(" (?=[0-9])", "").replaceAll("(?<=[0-9]) ", ""));
        Texts.fault(1, "^hou se apart 1");
        Texts.fault(1, "house apart 1 ^0 motor 0");
        Texts.fault(1, Texts.HOUSE + ";reel a ^b frames 9");
        for (int sign = 0; sign < 256; sign++) {
            char c = (char) sign;
            if (sign == ' ') {
                Texts.fine(2, c + Texts.GOOD + c);
            } else {
                Texts.faultAt(1, 0, c + Texts.GOOD);
                Texts.faultAt(1, Texts.GOOD.length() + (sign == ';' || sign == ',' ? 2 : 1), Texts.GOOD + " " + c);
            }
        }
    }

    private static void words() {
        Check.holds(3, "WORDS of 1 to 8 small letters that stand together");
        for (String name : new String[] {"a", "z", "az", "abcdefgh", "zzzzzzzz", "zyxwvuts"}) {
            ReelChange x = Texts.fine(2, Texts.HOUSE + ";reel " + name + " frames 9 first 0 whole 9;reel q frames 5 first 0 whole 9;man m clean slip 0;shows " + name + ",q");
            Check.row("shows " + name, new long[] {x.shows(0), x.shows(1)}, 0, 1);
        }
        Texts.fault(1, Texts.HOUSE + ";reel ^abcdefghi frames 9 first 0 whole 9");
        Texts.fault(1, Texts.HOUSE + ";reel ^abcdefghijklmnopqrstuvwxyz frames 9 first 0 whole 9");
        Texts.fault(1, Texts.MAN + ";shows ^aaaaaaaaa");
        Texts.fault(1, "^househouse apart 1");
        for (int sign = 0; sign < 256; sign++) {
            char c = (char) sign;
            String text = Texts.HOUSE + ";reel a" + c + "b frames 9 first 0 whole 9;man m clean slip 0;shows a" + c + "b,a" + c + "b";
            int place = Texts.HOUSE.length() + ";reel a".length();
            if (c >= 'a' && c <= 'z') {
                Texts.fine(2, text);
            } else {
                Texts.faultAt(1, c == ' ' ? place + 1 : place, text);
            }
        }
        Texts.fault(2, Texts.HOUSE + ";reel abcdefgh frames 9 first 0 whole 9;shows ^abcdefg");
        Texts.fault(2, Texts.HOUSE + ";reel abcdefgh frames 9 first 0 whole 9;shows ^abcdefgi");
        Texts.fault(2, Texts.HOUSE + ";reel abcdefgh frames 9 first 0 whole 9;shows ^bbcdefgh");
        Texts.fault(2, Texts.HOUSE + ";reel a frames 9 first 0 whole 9;shows ^aa");
    }

    private static void wholes() {
        Check.holds(3, "WHOLES of 1 to 4 digits that do, single ones of ; ,");
        String rest = Texts.GOOD.substring(Texts.HOUSE.length());
        for (String whole : new String[] {"7", "07", "007", "0007"}) {
            ReelChange x = Texts.fine(2, Texts.HOUSE.replace("burns 1", "burns " + whole) + rest);
            Check.due("burns " + whole, x.size(3), 7);
        }
        Texts.fault(1, Texts.HOUSE.replace("burns 1", "burns ^00007") + rest);
        Texts.fault(1, Texts.HOUSE.replace("burns 1", "burns ^99999") + rest);
        Texts.fault(1, Texts.HOUSE.replace("burns 1", "burns ^4294967297") + rest);
        Texts.fault(1, Texts.HOUSE.replace("burns 1", "burns ^18446744073709551617") + rest);
        for (int sign = 0; sign < 256; sign++) {
            char c = (char) sign;
            String text = Texts.HOUSE.replace("burns 1", "burns 1" + c + "2") + rest;
            int place = text.indexOf("burns 1") + "burns 1".length();
            if (c >= '0' && c <= '9') {
                Check.due("burns 1" + c + "2", Texts.fine(2, text).size(3), 102 + 10 * (c - '0'));
            } else {
                Texts.faultAt(1, c == ' ' ? place + 1 : place, text);
            }
        }
        Texts.fault(1, Texts.REELS + ";^;man m clean slip 0;shows a,b");
        Texts.fault(1, Texts.MAN + ";shows a,^,b");
    }

    private static void names() {
        Check.holds(3, "NAMES are WORDS but house, reel, town, mark, join, weak, man, shows, boys, by, seen, scratch; each told once, ahead of its use.");
        String[] reserved = {"house", "reel", "town", "mark", "join", "weak", "man", "shows", "boys", "by", "seen", "scratch"};
        for (String word : reserved) {
            Texts.fault(1, Texts.GOOD + ";reel ^" + word + FRAMES);
            Texts.fault(1, Texts.GOOD + ";town ^" + word + " trust 1");
            Texts.fault(1, Texts.GOOD + ";man ^" + word + " late slip 1");
            Texts.fault(1, Texts.GOOD + ";mark ^" + word + " 1 by t");
            Texts.fault(1, Texts.GOOD + ";mark a 1 by ^" + word);
            Texts.fault(1, Texts.GOOD + ";man n misled ^" + word + " slip 1");
            Texts.fault(1, Texts.MAN + ";shows ^" + word);
            Texts.fault(1, Texts.MAN + ";shows a,^" + word);
        }
        String[] others = {"apart", "motor", "leader", "burns", "trim", "mend", "frames", "first", "whole", "trust", "lacks", "snaps", "clean", "early",
            "late", "misled", "slip", "ride", "falls", "black", "lost", "hous", "houses", "b", "byy", "reels"};
        for (String word : others) {
            String reel = Texts.HOUSE + ";reel " + word + FRAMES + ";town t trust 5;man m misled t slip 0;shows " + word + "," + word + ";mark " + word + " 5 by t";
            Check.due(word + " is a reel", Texts.fine(2, reel).believes(0, 1), 5);
            String town = Texts.HOUSE + ";reel a" + FRAMES + ";town " + word + " trust 5;mark a 5 by " + word + ";man m misled " + word + " slip 0;shows a,a";
            Check.due(word + " is a town", Texts.fine(2, town).believes(0, 1), 5);
            Texts.fine(2, Texts.HOUSE + ";reel a" + FRAMES + ";man " + word + " clean slip 0;shows a,a");
        }
        Texts.fault(2, Texts.HOUSE + ";town t trust 1;mark ^a 0 by t;reel a" + FRAMES);
        Texts.fault(2, Texts.REELS + ";mark a 0 by ^t;town t trust 1");
        Texts.fault(2, Texts.REELS + ";man m misled ^t slip 0;town t trust 1");
        Texts.fault(2, Texts.REELS + ";shows a,^c;reel c" + FRAMES);
    }
}

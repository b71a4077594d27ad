/** Promises 1 to 5: a new object, feed, house, fault, where; THE TEXT and its FAULTS. */
public final class TextTest {
    private static final String HOUSE = Texts.HOUSE;
    private static final String REELS = Texts.REELS;
    private static final String TOWN = Texts.TOWN;
    private static final String MAN = Texts.MAN;
    private static final String GOOD = Texts.GOOD;

    public static void main(String[] args) {
        newObject();
        feeding();
        reading();
        form();
        names();
        again();
        bounds();
        many();
        lacks();
        leastOfOnePlace();
        houseStays();
        Check.end("TextTest");
    }

    private static void newObject() {
        ReelChange x = new ReelChange();
        Check.due("trouble", x.trouble(), 0);
        Check.due("fault", x.fault(), 0);
        Check.due("where", x.where(), -1);
        for (int what = 0; what <= 17; what++) {
            Check.due("size " + what, x.size(what), 0);
        }
        Check.due("fits", x.fits(), -1);
        Check.due("trouble", x.trouble(), 1);
    }

    private static void feeding() {
        ReelChange x = new ReelChange();
        Check.due("shows", x.shows(0), -1);
        for (int i = 1; i <= 45; i++) {
            Check.due("feed " + i, x.feed(-1, 0, 1, 2, 3), 20 * i);
        }
        Check.due("feed 46", x.feed(0, 0, 0, 0, 0), -1);
        Check.due("feed 47", x.feed(0, 0, 0, 0, 0), -1);
        Check.due("tape", x.size(17), 900);
        Check.due("feed has no trouble", x.trouble(), 1);
        Check.due("house(901)", x.house(901), -1);
        Check.due("trouble", x.trouble(), 2);
        Check.due("where", x.where(), -1);
        Check.due("tape stays", x.size(17), 900);
        Check.due("house(-1)", x.house(-1), -1);
        Check.due("trouble", x.trouble(), 2);
        Check.due("house(900)", x.house(900), -1);
        Check.due("trouble", x.trouble(), 4);
        Check.due("tape", x.size(17), 0);
        Check.due("feed", x.feed(0x68000000, 0, 0, 0, 0), 20);
        Check.due("house(1)", x.house(1), -1);
        Check.due("the highest byte comes first: h is a word, no line", x.where(), 0);
        Check.due("feed", x.feed(0x68000000, 0, 0, 0, 0x68), 20);
        Check.due("house(0)", x.house(0), -1);
        Check.due("trouble", x.trouble(), 4);
        Check.due("fault of nothing", x.fault(), 1);
        Check.due("where", x.where(), 0);
        Check.due("tape", x.size(17), 0);
        Check.due("house(1) of an empty tape", x.house(1), -1);
        Check.due("trouble", x.trouble(), 2);
        Check.due("the fault stays by 2", x.fault(), 1);
        Check.due("where doesn't", x.where(), -1);
    }

    private static void reading() {
        Texts.fine(2, GOOD);
        Texts.fine(2, "  " + GOOD.replace(" ", "   ").replace(";", " ; ").replace(",", " , ") + "  ");
        Texts.fine(2, GOOD.replace(" 9", "0009").replace("apart 1", "apart1"));
        Texts.fine(8, MAN + ";shows a,b,a,b,a,b,a,b");
        Texts.fine(2, GOOD.replace("reel a", "reel first").replace("shows a", "shows first"));
        Texts.fine(2, GOOD.replace("reel a", "reel abcdefgh").replace("shows a", "shows abcdefgh"));
        Texts.fine(2, GOOD.replace("reel a", "reel zz").replace("shows a", "shows zz").replace("reel b", "reel z").replace(",b", ",z"));
        Texts.fine(2, GOOD.replace("reel b", "reel ab").replace(",b", ",ab").replace("reel a ", "reel ba ").replace("shows a", "shows ba"));
        Texts.fine(2, GOOD + ";man slip misled t slip 40;boys 4 ride 2000 falls 50;seen 1 black 9999 lost 9999;scratch b 8");
        Texts.fine(2, GOOD + ";boys 1 ride 1 falls 0;weak a 0 snaps 1;weak a 8 snaps 99;join a 8 lacks 99;join a 8 lacks 1");
        Texts.fine(2, REELS.replace("apart 1 motor 0 leader 0 burns 1 trim 0 mend 0",
                "apart 50 motor 50 leader 99 burns 9999 trim 999 mend 999") + ";shows b,a;man x late slip 0");
        ReelChange x = Check.open(GOOD.replace("apart 1 motor 0 leader 0 burns 1 trim 0 mend 0",
                "apart 50 motor 49 leader 99 burns 9999 trim 998 mend 999"));
        Check.row("size", new long[] {x.size(0), x.size(1), x.size(2), x.size(3), x.size(4), x.size(5)},
                50, 49, 99, 9999, 998, 999);
        Check.feed(x, GOOD + "             ");
        Check.due("bytes behind n mean nothing", x.house(GOOD.length()), 2);
        Check.due("and are gone", x.size(17), 0);
    }

    private static void form() {
        Texts.fault(1, "^");
        Texts.fault(1, "   ^");
        Texts.fault(1, "^;");
        Texts.fault(1, "^foo");
        Texts.fault(1, "^by a");
        Texts.fault(1, "^7");
        Texts.fault(1, "^House");
        Texts.fault(1, "^\t");
        Texts.fault(1, "house^");
        Texts.fault(1, "house ^ape 1");
        Texts.fault(1, "house apart ^motor");
        Texts.fault(1, "house apart 1^");
        Texts.fault(1, "house apart 1  ^");
        Texts.fault(1, "house apart 1 ^;");
        Texts.fault(1, "house apart ^00001 motor");
        Texts.fault(1, "house apart ^10000000000000000000001 motor");
        Texts.fault(1, HOUSE + "^,");
        Texts.fault(1, HOUSE + ";^");
        Texts.fault(1, HOUSE + ";^;");
        Texts.fault(1, HOUSE + " ^1");
        Texts.fault(1, HOUSE + ";reel ^by");
        Texts.fault(1, HOUSE + ";reel ^scratch frames");
        Texts.fault(1, HOUSE + ";reel ^abcdefghi frames 9");
        Texts.fault(1, HOUSE + ";reel ^7");
        Texts.fault(1, HOUSE + ";reel a ^first 3");
        Texts.fault(1, HOUSE + ";reel a frames 9 first 0 whole 9 ^reel");
        Texts.fault(1, REELS + ";town ^man trust 5");
        Texts.fault(1, TOWN + ";mark a 1 ^t");
        Texts.fault(1, TOWN + ";mark ^by 1");
        Texts.fault(1, TOWN + ";mark a 1 by ^by");
        Texts.fault(1, TOWN + ";man m ^bad slip 1");
        Texts.fault(1, TOWN + ";man m ^slip 1");
        Texts.fault(1, TOWN + ";man m clean ^t slip 1");
        Texts.fault(1, TOWN + ";man m misled ^7");
        Texts.fault(1, MAN + ";shows ^;");
        Texts.fault(1, MAN + ";shows a ^b");
        Texts.fault(1, MAN + ";shows a,^");
        Texts.fault(1, MAN + ";shows a,^,");
        Texts.fault(1, MAN + ";shows a,b,^;");
        Texts.fault(1, GOOD + ";boys ^ride 1");
        Texts.fault(1, GOOD + ";seen 1 ^lost 0");
        Texts.fault(1, GOOD + ";scratch a 1 ^by");
        Texts.fault(1, GOOD + ";^-1");
        Texts.fault(1, GOOD + "^" + (char) 0xE1);
        Texts.fault(1, GOOD + ";reel c frames 9 first 0 whole 9^.");
    }

    private static void names() {
        Texts.fault(2, TOWN + ";mark ^c 1 by t");
        Texts.fault(2, TOWN + ";mark ^t 1 by t");
        Texts.fault(2, TOWN + ";mark a 1 by ^a");
        Texts.fault(2, TOWN + ";mark a 1 by ^u");
        Texts.fault(2, TOWN + ";join ^t 1 lacks 1");
        Texts.fault(2, TOWN + ";weak ^frames 1 snaps 1");
        Texts.fault(2, MAN + ";man n misled ^m slip 0");
        Texts.fault(2, MAN + ";man n misled ^n slip 0");
        Texts.fault(2, MAN + ";shows a,^m");
        Texts.fault(2, MAN + ";shows ^ab");
        Texts.fault(2, MAN + ";scratch ^c 1");
        Texts.fault(2, HOUSE + ";shows ^a,b;reel a frames 9 first 0 whole 9");
    }

    private static void again() {
        Texts.fault(3, REELS + ";reel ^a frames");
        Texts.fault(3, REELS + ";town ^a trust 1");
        Texts.fault(3, TOWN + ";reel ^t");
        Texts.fault(3, TOWN + ";man ^t clean slip 1");
        Texts.fault(3, MAN + ";man ^m clean slip 1");
        Texts.fault(3, MAN + ";town ^m trust 1");
        Texts.fault(3, TOWN + ";mark a 1 by t;mark b 1 by t;mark a 1 by ^t;");
        Texts.fault(3, TOWN + ";mark a 0 by t;mark a 1 by ^t;");
        Texts.fault(3, TOWN + ";weak a 1 snaps 1;weak b 1 snaps 1;weak a ^01 snaps 1;");
        Texts.fault(3, HOUSE + ";^house apart 1");
        Texts.fault(3, GOOD + ";^shows a,b");
        Texts.fault(3, GOOD + ";boys 1 ride 1 falls 1;^boys 1");
    }

    private static void bounds() {
        String[] texts = {
            "house apart ^0", "house apart ^51", "house apart 1 motor ^51", "house apart 1 motor 0 leader ^100",
            "house apart 1 motor 0 leader 0 burns ^0", "house apart 1 motor 0 leader 0 burns 1 trim ^1000",
            "house apart 1 motor 0 leader 0 burns 1 trim 0 mend ^1000",
            HOUSE + ";reel a frames ^1", HOUSE + ";reel a frames ^2001", HOUSE + ";reel a frames 9 first ^9",
            HOUSE + ";reel a frames 9 first 8 whole ^8", HOUSE + ";reel a frames 9 first 8 whole ^2001",
            REELS + ";town t trust ^0", REELS + ";town t trust ^10", TOWN + ";mark a ^9 by t", TOWN + ";mark a ^9999",
            TOWN + ";join a ^9 lacks 1", TOWN + ";join a 8 lacks ^0", TOWN + ";join a 8 lacks ^100",
            TOWN + ";weak a ^9 snaps 1", TOWN + ";weak a 8 snaps ^0", TOWN + ";weak a 8 snaps ^100",
            TOWN + ";man m clean slip ^41", GOOD + ";boys ^0", GOOD + ";boys ^5", GOOD + ";boys 1 ride ^0",
            GOOD + ";boys 1 ride ^2001", GOOD + ";boys 1 ride 1 falls ^51", GOOD + ";seen ^0 black 0 lost 0",
            GOOD + ";seen ^2 black 0 lost 0", GOOD + ";scratch a ^9"
        };
        for (String text : texts) {
            Texts.fault(4, text);
        }
    }

    private static void many() {
        String frames = " frames 9 first 0 whole 9";
        Texts.fault(5, HOUSE + Texts.times(";reel #" + frames, 8) + ";^reel x" + frames);
        Texts.fine(2, HOUSE + Texts.times(";reel #" + frames, 8) + ";man m clean slip 0;shows h,g");
        Texts.fault(5, REELS + Texts.times(";town x# trust 1", 4) + ";^town y");
        String marks = HOUSE + Texts.times(";reel #" + frames, 4) + Texts.times(";town x# trust 1", 4)
                + Texts.times(";mark a 1 by x#", 4) + Texts.times(";mark b 1 by x#", 4) + Texts.times(";mark c 1 by x#", 4);
        Texts.fault(5, marks + ";^mark d 1 by xa");
        Texts.fault(5, TOWN + Texts.times(";join a 1 lacks 1", 8) + ";^join a 1");
        Texts.fault(5, TOWN + Texts.times(";weak a @ snaps 1", 6) + ";^weak a 1");
        Texts.fault(5, TOWN + Texts.times(";man x# late slip 1", 4) + ";^man y");
        Texts.fault(5, MAN + ";shows a,b,a,b,a,b,a,b,^a");
        Texts.fault(5, GOOD + Texts.times(";seen 1 black 0 lost 0", 6) + ";^seen 1");
        Texts.fault(5, GOOD + Texts.times(";scratch a 0", 6) + ";^scratch a");
    }

    private static void lacks() {
        Texts.fault(6, "^reel a");
        Texts.fault(6, " ^seen 1");
        Texts.fault(6, "^shows");
        Texts.fault(6, "^boys");
        Texts.fault(6, MAN + ";^seen 1 black 0 lost 0;shows a,b");
        Texts.fault(6, MAN + ";shows a^;");
        Texts.fault(6, MAN + ";shows a^");
        Texts.fault(6, MAN + ";shows a ^");
        Texts.fault(6, MAN + ";shows a ^; shows");
        Texts.fault(6, MAN.replace(";man m clean slip 0", "") + ";shows a,b^");
        Texts.fault(6, MAN + "^");
        Texts.fault(6, MAN + "  ^");
        Texts.fault(6, HOUSE + "^");
    }

    /** Where two FAULTS have one place the least number is told. */
    private static void leastOfOnePlace() {
        Texts.fault(1, MAN + ";shows a,b,a,b,a,b,a,b,^by");
        Texts.fault(2, MAN + ";shows a,b,a,b,a,b,a,b,^t");
        Texts.fault(1, MAN + ";^");
        Texts.fault(1, MAN + ";shows a,^");
    }

    private static void houseStays() {
        ReelChange x = Check.open(GOOD + ";weak a 3 snaps 5");
        Check.due("threads", x.threads(1, 7), true);
        Check.due("trim", x.trim(1, true), true);
        Check.due("image", x.image(), 0);
        Check.due("a house with a fault", Check.house(x, GOOD + ";boys 9"), -1);
        Check.due("fault", x.fault(), 4);
        Check.due("where", x.where(), GOOD.length() + 6);
        Check.due("thread stays", x.thread(1), 7);
        Check.due("fault stays", x.fault(), 4);
        Check.due("where doesn't", x.where(), -1);
        Check.due("acts stay", x.size(15), 2);
        Check.due("images stay", x.size(16), 1);
        Check.due("weak places stay", x.size(10), 1);
        Check.due("house by 2", x.house(1), -1);
        Check.due("fault stays by 2", x.fault(), 4);
        Check.due("another house", Check.house(x, MAN + ";shows a,b,b"), 3);
        Check.due("fault", x.fault(), 0);
        Check.due("where", x.where(), -1);
        Check.due("thread by leader", x.thread(1), 0);
        Check.due("no acts", x.size(15), 0);
        Check.due("no images", x.size(16), 0);
        Check.due("no weak places", x.size(10), 0);
        Check.due("nothing to undo", x.undo(), false);
        Check.due("no image to go back to", x.back(0), false);
        Check.due("nothing is trimmed", x.trim(1, false), false);
        Check.due("nor the first", x.trim(0, false), false);
        Check.due("trouble", x.trouble(), 5);
    }
}

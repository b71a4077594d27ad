/** Houses that several tests use; what is due of them is worked out by hand. */
final class Houses {
    /** Three reels, two towns, a man of each kind; the changes fit, so nothing is LOST nor BLACK. */
    static final String THREE = "house apart 10 motor 4 leader 6 burns 200 trim 30 mend 25"
            + ";reel one frames 60 first 40 whole 64;reel two frames 50 first 30 whole 50;reel end frames 40 first 20 whole 45"
            + ";town ayr trust 8;town bly trust 3"
            + ";mark one 42 by ayr;mark one 30 by bly;mark two 35 by ayr"
            + ";join one 10 lacks 3;join end 5 lacks 30;weak two 20 snaps 50"
            + ";man cal clean slip 0;man eve early slip 2;man lou late slip 5;man mo misled bly slip 1"
            + ";shows one,two,end;boys 1 ride 20 falls 10"
            + ";seen 1 black 0 lost 0;seen 2 black 4 lost 0;scratch two 32;scratch end 10";

    /** AHEAD is 20 at each change: b goes by, a loses half of it; no boys. */
    static final String GONE_BY = "house apart 20 motor 0 leader 0 burns 30 trim 5 mend 1"
            + ";reel a frames 40 first 5 whole 40;reel b frames 10 first 3 whole 10;reel c frames 30 first 9 whole 30"
            + ";man m clean slip 0;shows c,b,a,a";

    /** AHEAD is -4 at the change: BLACK. */
    static final String BLACK = "house apart 10 motor 8 leader 6 burns 60 trim 0 mend 7"
            + ";reel a frames 30 first 15 whole 30;man m clean slip 0;man n clean slip 40;shows a,a;boys 2 ride 5 falls 50";

    private Houses() {
    }
}

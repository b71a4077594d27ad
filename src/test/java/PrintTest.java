/** Promises 6 to 9 and 31 to 39: reels as they are, marks, joins, weak places. */
public final class PrintTest {
    public static void main(String[] args) {
        asItIs();
        truly();
        scratches();
        joins();
        weakPlaces();
        wears();
        Check.end("PrintTest");
    }

    private static void refused(ReelChange x, String call, long got, int trouble) {
        Check.due(call, got, -1);
        Check.due(call + " trouble", x.trouble(), trouble);
        x.fits();
    }

    private static void asItIs() {
        ReelChange x = Check.open(Houses.THREE);
        long[][] due = {{60, 40, 64, 2, 1, 0}, {50, 30, 50, 1, 0, 1}, {40, 20, 45, 0, 1, 0}};
        for (int r = 0; r < 3; r++) {
            Check.row("reel " + r, new long[] {x.reel(r, 0), x.reel(r, 1), x.reel(r, 2), x.reel(r, 3), x.reel(r, 4), x.reel(r, 5)}, due[r]);
            Check.due("shows", x.shows(r), r);
            Check.due("thread", x.thread(r), 6);
        }
        Check.row("mark", new long[] {x.mark(0, 0), x.mark(0, 1), x.mark(1, 0), x.mark(1, 1), x.mark(2, 0), x.mark(2, 1)}, 42, 30, 35, -2, -2, -2);
        Check.due("trouble", x.trouble(), 0);
        refused(x, "reel(3, 0)", x.reel(3, 0), 1);
        refused(x, "reel(-1, 0)", x.reel(-1, 0), 1);
        refused(x, "reel(0, 6)", x.reel(0, 6), 1);
        refused(x, "reel(0, -1)", x.reel(0, -1), 1);
        refused(x, "mark(3, 0)", x.mark(3, 0), 1);
        refused(x, "mark(0, 2)", x.mark(0, 2), 1);
        refused(x, "mark(0, -1)", x.mark(0, -1), 1);
        refused(x, "shows(3)", x.shows(3), 1);
        refused(x, "shows(-1)", x.shows(-1), 1);
        refused(x, "thread(3)", x.thread(3), 1);
        refused(x, "thread(-1)", x.thread(-1), 1);
        ReelChange y = Check.open(Houses.GONE_BY);
        Check.row("shows", new long[] {y.shows(0), y.shows(1), y.shows(2), y.shows(3)}, 2, 1, 0, 0);
        ReelChange none = new ReelChange();
        refused(none, "reel without a house", none.reel(0, 0), 1);
        refused(none, "shows without a house", none.shows(0), 1);
    }

    private static void truly() {
        ReelChange x = Check.open(Houses.THREE);
        Check.row("truly of reel 0: 56, 56, 6 of 118", new long[] {x.truly(0, 40, false), x.truly(0, 40, true), x.truly(0, 42, false),
            x.truly(0, 42, true), x.truly(0, 30, false), x.truly(0, 30, true)}, 28, 59, 28, 59, 3, 59);
        Check.row("truly of reel 1", new long[] {x.truly(1, 30, false), x.truly(1, 30, true), x.truly(1, 35, false), x.truly(1, 35, true)}, 1, 5, 4, 5);
        Check.row("of FIRST alone", new long[] {x.truly(2, 20, false), x.truly(2, 20, true)}, 1, 1);
        Check.row("likeliest", new long[] {x.likeliest(0), x.likeliest(1), x.likeliest(2)}, 40, 35, 20);
        refused(x, "truly(0, 41)", x.truly(0, 41, true), 1);
        refused(x, "truly(3, 40)", x.truly(3, 40, true), 1);
        refused(x, "truly(-1, 0)", x.truly(-1, 0, false), 1);
        refused(x, "likeliest(3)", x.likeliest(3), 1);
        refused(x, "likeliest(-1)", x.likeliest(-1), 1);
        ReelChange y = Check.open("house apart 1 motor 0 leader 0 burns 1 trim 0 mend 0;reel a frames 99 first 50 whole 99"
                + ";town t trust 1;town u trust 5;town v trust 9;mark a 50 by t;mark a 47 by u;mark a 52 by v;man m clean slip 0;shows a,a");
        Check.row("like frames count once: 50 is 1 5 9, 47 is 9 5 1, 52 is 1 5 9", new long[] {y.truly(0, 50, false), y.truly(0, 50, true),
            y.truly(0, 47, true), y.truly(0, 52, true)}, 1, 3, 3, 3);
        Check.due("the least frame of like ones", y.likeliest(0), 47);
        ReelChange only = Check.open(Houses.THREE.replace("mark one 42 by ayr;mark one 30 by bly", "mark one 50 by ayr"));
        Check.row("the first mark", new long[] {only.likeliest(0), only.truly(0, 50, false), only.truly(0, 50, true)}, 50, 4, 5);
    }

    private static void scratches() {
        ReelChange x = Check.open(Houses.THREE);
        Check.row("who, far", new long[] {x.who(0), x.far(0), x.who(1), x.far(1)}, 0, 0, 1, 0);
        refused(x, "who(2)", x.who(2), 1);
        refused(x, "who(-1)", x.who(-1), 1);
        refused(x, "far(2)", x.far(2), 1);
        ReelChange y = Check.open(Houses.THREE.replace("scratch two 32", "scratch two 21").replace("scratch end 10", "scratch end 16"));
        Check.row("9 ahead is 1 from 10 ahead; 4 ahead is 6 from 2 behind and 6 from 10 ahead: the first town",
                new long[] {y.who(0), y.far(0), y.who(1), y.far(1)}, 1, 1, 0, 6);
        ReelChange none = Check.open(Houses.GONE_BY + ";scratch a 1");
        Check.row("nobody has marks", new long[] {none.who(0), none.far(0), none.trouble()}, -2, -2, 0);
        ReelChange towns = Check.open(Houses.THREE.replace("town bly trust 3", "town bly trust 3;town cox trust 1")
                .replace("mark two 35 by ayr", "mark two 35 by cox;mark end 25 by bly"));
        Check.row("bly is as far as cox: the first town, not the first mark", new long[] {towns.who(0), towns.who(1)}, 0, 1);
        ReelChange order = Check.open(Houses.THREE.replace("mark one 42 by ayr;mark one 30 by bly", "mark one 42 by bly;mark one 41 by ayr")
                .replace("mark two 35 by ayr", "mark two 32 by ayr"));
        Check.row("a like mark told later, of the first town", new long[] {order.who(0), order.far(0)}, 0, 0);
    }

    private static void joins() {
        ReelChange x = Check.open(Houses.THREE);
        Check.row("missing", new long[] {x.missing(0, false), x.missing(1, false), x.missing(2, false)}, 4, 0, 5);
        Check.row("untold", new long[] {x.missing(0, true), x.missing(1, true), x.missing(2, true)}, 1, 0, 0);
        Check.row("words", new long[] {x.words(0), x.words(1), x.words(2)}, 0, 0, 1);
        refused(x, "missing(3)", x.missing(3, false), 1);
        refused(x, "missing(-1)", x.missing(-1, true), 1);
        refused(x, "words(3)", x.words(3), 1);
        refused(x, "words(-1)", x.words(-1), 1);
        ReelChange y = Check.open(Houses.THREE + ";join one 1 lacks 24;join one 1 lacks 23;join one 2 lacks 99");
        Check.due("24 is a word, 23 isn't", y.words(0), 2);
        ReelChange z = Check.open(Houses.THREE.replace("join one 10 lacks 3", "join one 10 lacks 30"));
        Check.row("the first join", new long[] {z.words(0), z.words(1), z.words(2)}, 1, 0, 1);
    }

    private static void weakPlaces() {
        ReelChange x = Check.open(Houses.THREE + ";weak one 1 snaps 99;weak one 2 snaps 8");
        Check.row("holds", new long[] {x.holds(0, 0, false), x.holds(0, 0, true), x.holds(0, 2, false), x.holds(0, 2, true),
            x.holds(0, 4, true), x.holds(1, 4, false), x.holds(1, 4, true), x.holds(2, 1, false), x.holds(2, 1, true)},
                1, 1, 1, 4, 16, 1, 100000000, 23, 25);
        Check.row("pays", new long[] {x.pays(0, 0), x.pays(0, 1), x.pays(2, 1), x.pays(2, 2)}, 0, 1, 0, 1);
        Check.due("trouble", x.trouble(), 0);
        refused(x, "holds(3, 1)", x.holds(3, 1, false), 1);
        refused(x, "holds(-1, 1)", x.holds(-1, 1, false), 1);
        refused(x, "holds(3, 5): 1 goes ahead", x.holds(3, 5, false), 1);
        refused(x, "holds(0, 5)", x.holds(0, 5, false), 2);
        refused(x, "holds(0, -1)", x.holds(0, -1, true), 2);
        refused(x, "pays(3, 1)", x.pays(3, 1), 1);
        refused(x, "pays(0, 5)", x.pays(0, 5), 2);
        refused(x, "pays(0, -1)", x.pays(0, -1), 2);
        x.mend(0);
        refused(x, "holds of one mended", x.holds(0, 1, true), 1);
        refused(x, "pays of one mended", x.pays(0, 1), 1);
        ReelChange y = Check.open(Houses.THREE.replace("mend 25", "mend 2"));
        Check.due("2 ticks never pay", y.pays(0, 4), 0);
        ReelChange z = Check.open(Houses.THREE.replace("mend 25", "mend 4"));
        Check.row("just 2 isn't more than 2", new long[] {z.pays(0, 1), z.pays(0, 2)}, 0, 1);
    }

    private static void wears() {
        ReelChange x = Check.open(Houses.THREE + ";weak two 1 snaps 3");
        Check.row("wears", new long[] {x.wears(1, 1, false), x.wears(1, 1, true), x.wears(1, 99, false), x.wears(1, 99, true),
            x.wears(1, 0, false), x.wears(1, 0, true), x.wears(0, 9, false), x.wears(0, 9, true)}, 53, 50, 5247, 50, 0, 1, 0, 1);
        refused(x, "wears(3, 1)", x.wears(3, 1, false), 1);
        refused(x, "wears(-1, 100)", x.wears(-1, 100, false), 1);
        refused(x, "wears(1, 100)", x.wears(1, 100, false), 2);
        refused(x, "wears(1, -1)", x.wears(1, -1, false), 2);
        x.mend(0);
        Check.row("less what is mended", new long[] {x.wears(1, 50, false), x.wears(1, 50, true)}, 3, 1);
    }
}

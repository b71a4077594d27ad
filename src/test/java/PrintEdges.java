/** Edges of promises 6 to 9: reels as they are NOW, marks, shows, threads. */
final class PrintEdges {
    private static final String TEXT = Texts.HOUSE.replace("leader 0", "leader 33")
            + ";reel a frames 20 first 7 whole 25;reel b frames 30 first 11 whole 30;reel c frames 6 first 0 whole 2000"
            + ";town t trust 5;town u trust 5;mark a 19 by u;mark b 3 by t;mark b 0 by u;join b 2 lacks 9;join b 2 lacks 9;join b 3 lacks 9"
            + ";weak b 5 snaps 9;weak a 4 snaps 1;weak b 4 snaps 1;man m clean slip 0;shows c,a,a,b";

    private PrintEdges() {
    }

    static void all() {
        reels();
        marks();
        shows();
        threads();
    }

    private static void reels() {
        Check.holds(6, "Of a reel NOW 0 its frames, 1 FIRST, 2 whole, 3 marks, 4 joins, 5 weak places. NONE: 1.");
        ReelChange x = Check.open(TEXT);
        int[][] due = {{20, 7, 25, 1, 0, 1}, {30, 11, 30, 2, 3, 2}, {6, 0, 2000, 0, 0, 0}};
        for (int r = 0; r < 3; r++) {
            for (int what = 0; what < 6; what++) {
                int reel = r;
                int which = what;
                Check.told(x, "reel(" + r + ", " + what + ")", () -> x.reel(reel, which), due[r][what]);
            }
            int reel = r;
            Check.refused(x, 1, "reel(" + r + ", -1)", () -> x.reel(reel, -1));
            Check.refused(x, 1, "reel(" + r + ", 6)", () -> x.reel(reel, 6));
        }
        for (int r : new int[] {-1, 3, 8, Integer.MIN_VALUE, Integer.MAX_VALUE}) {
            Check.refused(x, 1, "reel(" + r + ", 0)", () -> x.reel(r, 0));
            Check.refused(x, 1, "reel(" + r + ", 6)", () -> x.reel(r, 6));
        }
        x.mend(0);
        x.mend(2);
        Check.row("NOW, behind two mends on b", new long[] {x.reel(1, 0), x.reel(1, 1), x.reel(1, 2), x.reel(1, 3), x.reel(1, 4), x.reel(1, 5), x.reel(0, 4), x.reel(0, 5)},
                26, 7, 30, 2, 5, 0, 0, 1);
        ReelChange none = new ReelChange();
        Check.refused(none, 1, "reel(0, 0) without a house", () -> none.reel(0, 0));
    }

    private static void marks() {
        Check.holds(7, "The frame of a town's mark on a reel; -2. NONE: 1.");
        ReelChange x = Check.open(TEXT);
        int[][] due = {{-2, 19}, {3, 0}, {-2, -2}};
        for (int r = 0; r < 3; r++) {
            int reel = r;
            Check.told(x, "mark(" + r + ", 0)", () -> x.mark(reel, 0), due[r][0]);
            Check.told(x, "mark(" + r + ", 1)", () -> x.mark(reel, 1), due[r][1]);
            Check.refused(x, 1, "mark(" + r + ", 2)", () -> x.mark(reel, 2));
            Check.refused(x, 1, "mark(" + r + ", -1)", () -> x.mark(reel, -1));
        }
        Check.refused(x, 1, "mark(-1, 0)", () -> x.mark(-1, 0));
        Check.refused(x, 1, "mark(3, 0)", () -> x.mark(3, 0));
        Check.refused(x, 1, "mark(3, 2)", () -> x.mark(3, 2));
        ReelChange none = new ReelChange();
        Check.refused(none, 1, "mark(0, 0) without a house", () -> none.mark(0, 0));
    }

    private static void shows() {
        Check.holds(8, "The reel of a place. NONE: 1.");
        ReelChange x = Check.open(TEXT);
        int[] due = {2, 0, 0, 1};
        for (int p = 0; p < 4; p++) {
            int place = p;
            Check.told(x, "shows(" + p + ")", () -> x.shows(place), due[p]);
        }
        for (int p : new int[] {-1, 4, 8, Integer.MIN_VALUE, Integer.MAX_VALUE}) {
            Check.refused(x, 1, "shows(" + p + ")", () -> x.shows(p));
        }
        ReelChange none = new ReelChange();
        Check.refused(none, 1, "shows(0) without a house", () -> none.shows(0));
    }

    private static void threads() {
        Check.holds(9, "THREAD of a place. NONE: 1.");
        ReelChange x = Check.open(TEXT);
        x.threads(3, 199);
        x.threads(1, 0);
        int[] due = {33, 0, 33, 199};
        for (int p = 0; p < 4; p++) {
            int place = p;
            Check.told(x, "thread(" + p + ")", () -> x.thread(place), due[p]);
        }
        for (int p : new int[] {-1, 4, 8, Integer.MIN_VALUE, Integer.MAX_VALUE}) {
            Check.refused(x, 1, "thread(" + p + ")", () -> x.thread(p));
        }
        ReelChange none = new ReelChange();
        Check.refused(none, 1, "thread(0) without a house", () -> none.thread(0));
    }
}

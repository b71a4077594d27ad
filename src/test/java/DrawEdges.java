/** Edges of promises 46 and 47: nights by draws. */
final class DrawEdges {
    private DrawEdges() {
    }

    static void all() {
        refused();
        slips();
        seeds();
        snaps();
        mended();
        lastReel();
        goneBy();
        bestMan();
        bestOfLikeMen();
        bestManRefused();
    }

    /** The motor is started at the slip's frame and runs till the reel has run out: BLACK is as much as the slip. */
    private static String slipIsBlack(String men, String shows) {
        return "house apart 50 motor 0 leader 50 burns 1 trim 0 mend 500;reel a frames 50 first 0 whole 50;reel b frames 50 first 0 whole 50" + men + ";shows " + shows;
    }

    private static void refused() {
        Check.holds(46, "DARK of a NIGHT by a SEED (0 .. 65,536). NONE: 1; 2.");
        ReelChange x = Check.open(slipIsBlack(";man m clean slip 40;man n clean slip 0", "a,a"));
        for (int seed : new int[] {-1, 65537, Integer.MIN_VALUE, Integer.MAX_VALUE}) {
            Check.refused(x, 2, "dark(0, " + seed + ")", () -> x.dark(0, seed));
            Check.refused(x, 1, "dark(2, " + seed + "): 1 goes ahead of 2", () -> x.dark(2, seed));
        }
        for (int man : new int[] {-1, 2, 4, Integer.MIN_VALUE, Integer.MAX_VALUE}) {
            Check.refused(x, 1, "dark(" + man + ", 0)", () -> x.dark(man, 0));
        }
        Check.told(x, "dark(0, 0): 74 mod 41", () -> x.dark(0, 0), 33);
        Check.told(x, "dark(0, 1): 149 mod 41", () -> x.dark(0, 1), 26);
        Check.told(x, "dark(0, 65535): 65461 mod 41", () -> x.dark(0, 65535), 25);
        Check.told(x, "dark(0, 65536): 65536 mod 41", () -> x.dark(0, 65536), 18);
        Check.told(x, "dark(1, 0)", () -> x.dark(1, 0), 0);
        ReelChange none = new ReelChange();
        Check.refused(none, 1, "dark without a house", () -> none.dark(0, -1));
    }

    private static void slips() {
        Check.holds(46, "at each change the slip is a DRAW mod his slip and 1");
        int[][] due = {{0, 0}, {1, 0}, {2, 2}, {35, 2}, {36, 0}, {37, 36}, {39, 34}, {40, 33}};
        for (int[] row : due) {
            ReelChange x = Check.open(slipIsBlack(";man m clean slip " + row[0], "a,b"));
            Check.due("74 mod " + (row[0] + 1), x.dark(0, 0), row[1]);
            Check.due("his NIGHT has his whole slip", x.black(0, 1), row[0]);
        }
    }

    private static void seeds() {
        Check.holds(46, "(SEED becomes (75 times SEED and 74) mod 65,537)");
        ReelChange x = Check.open(slipIsBlack(";man m clean slip 40", "a,b,a,b,a,b,a,b"));
        for (int seed : new int[] {0, 1, 2, 873, 874, 65461, 65535, 65536}) {
            long at = seed;
            long dark = 0;
            for (int change = 0; change < 7; change++) {
                at = (75 * at + 74) % 65537;
                dark += at % 41;
            }
            Check.due("seven changes from " + seed, x.dark(0, seed), dark);
            Check.due("from the same once more", x.dark(0, seed), dark);
        }
    }

    /** From 0 the draws are 74, 5624, 28652, 51790: the slip, then 24 of a hundred; then, without a slip, 52 for the last. */
    private static void snaps() {
        Check.holds(46, "then each weak place (not MENDED) of the reel that was shown, by numbers, snaps by a DRAW mod 100 below its chance: mend ticks dark.");
        int[][] first = {{23, 0}, {24, 0}, {25, 500}, {26, 500}};
        for (int[] row : first) {
            ReelChange x = Check.open(slipIsBlack(";man m clean slip 0", "a,b;weak a 3 snaps " + row[0]));
            Check.due("24 by " + row[0], x.dark(0, 0), row[1]);
        }
        int[][] two = {{24, 52, 0}, {25, 52, 500}, {24, 53, 500}, {25, 53, 1000}};
        for (int[] row : two) {
            ReelChange x = Check.open(slipIsBlack(";man m clean slip 0", "a,b;weak a 30 snaps " + row[0] + ";weak a 3 snaps " + row[1]));
            Check.due("24 by " + row[0] + ", 52 by " + row[1] + ": by numbers, not by frames", x.dark(0, 0), row[2]);
        }
        int[][] hundred = {{99, 0, 500}, {1, 0, 0}};
        for (int[] row : hundred) {
            ReelChange x = Check.open(slipIsBlack(";man m clean slip 0", "a,b;weak a 3 snaps " + row[0]));
            Check.due("24 by " + row[0], x.dark(0, row[1]), row[2]);
        }
        Check.holds(46, "DARK of it: BLACK and dark together.");
        ReelChange both = Check.open(slipIsBlack(";man m clean slip 40", "a,b;weak a 3 snaps 25"));
        Check.due("33 BLACK, 500 dark", both.dark(0, 0), 533);
        ReelChange shown = Check.open(slipIsBlack(";man m clean slip 0", "a,a,b;weak b 3 snaps 99"));
        Check.due("another reel's draws nothing: 74, 5624 are slips, 28652 is b's", shown.dark(0, 0), 500);
    }

    private static void mended() {
        Check.holds(46, "each weak place (not MENDED) of the reel that was shown");
        ReelChange x = Check.open(slipIsBlack(";man m clean slip 0", "a,b;weak a 30 snaps 20;weak a 3 snaps 25"));
        Check.due("24 by 20, 52 by 25", x.dark(0, 0), 0);
        x.mend(0);
        Check.due("24 by 25; 2 BLACK, for it runs out sooner", x.dark(0, 0), 502);
        x.mend(1);
        Check.due("none; 4 BLACK", x.dark(0, 0), 4);
        x.undo();
        Check.due("undone", x.dark(0, 0), 502);
    }

    private static void lastReel() {
        Check.holds(46, "(The last reel: no slip is drawn; a reel gone by: nothing is.)");
        int[][] due = {{24, 0}, {25, 500}};
        for (int[] row : due) {
            ReelChange x = Check.open(slipIsBlack(";man m clean slip 0", "a,b;weak b 3 snaps " + row[0]));
            Check.due("74 is the slip, 24 the last reel's by " + row[0], x.dark(0, 0), row[1]);
        }
        int[][] behind = {{52, 0}, {53, 500}};
        for (int[] row : behind) {
            ReelChange x = Check.open(slipIsBlack(";man m clean slip 0", "a,b;weak a 3 snaps 1;weak b 3 snaps " + row[0]));
            Check.due("74 the slip, 24 a's, 52 b's by " + row[0], x.dark(0, 0), row[1]);
        }
    }

    /** b has two frames, and goes by at once. */
    private static void goneBy() {
        Check.holds(46, "a reel gone by: nothing is");
        String text = "house apart 50 motor 0 leader 0 burns 1 trim 0 mend 500;reel a frames 90 first 0 whole 90;reel b frames 2 first 0 whole 50;man m clean slip 40";
        ReelChange x = Check.open(text + ";weak b 0 snaps 99;shows a,b,a;weak a 3 snaps 52");
        Check.row("74 is a's slip, 24 snaps; nothing of b; 52 is a's by 52", new long[] {x.all(0, 3), x.dark(0, 0)}, 1, 500);
        ReelChange y = Check.open(text + ";weak b 0 snaps 99;shows a,b,a;weak a 3 snaps 53");
        Check.due("52 by 53", y.dark(0, 0), 1000);
        ReelChange last = Check.open(text + ";weak b 0 snaps 99;shows a,b");
        Check.row("a last reel gone by", new long[] {last.all(0, 3), last.dark(0, 0)}, 1, 0);
        ReelChange drawn = Check.open(slipIsBlack(";man m clean slip 40", "a,c,a,a").replace("reel b frames 50 first 0 whole 50", "reel c frames 2 first 0 whole 50"));
        drawn.threads(1, 10);
        Check.due("the slips are 33 (the motor runs 17, c goes by) and the very next draw, 5624 mod 41", drawn.dark(0, 0), 7);
    }

    private static long drawn(int slip, int seed, int nights) {
        long at = seed;
        long sum = 0;
        for (int i = 0; i < nights; i++) {
            at = (75 * at + 74) % 65537;
            sum += at % (slip + 1);
        }
        return sum;
    }

    private static void bestMan() {
        Check.holds(47, "BEST MAN: least DARK and LOST and TAILS together over n such NIGHTS, SEED going on (each man begins by the one told), the first such.");
        int[] slips = {40, 39, 38, 37};
        ReelChange x = Check.open(slipIsBlack(";man m clean slip 40;man n clean slip 39;man o clean slip 38;man p clean slip 37", "a,b"));
        for (int seed : new int[] {0, 1, 77, 4321, 30000, 65535, 65536}) {
            for (int n = 1; n <= 20; n++) {
                int best = 0;
                for (int man = 1; man < 4; man++) {
                    best = drawn(slips[man], seed, n) < drawn(slips[best], seed, n) ? man : best;
                }
                Check.due("bestMan(" + seed + ", " + n + ")", x.bestMan(seed, n), best);
            }
        }
        // m: BLACK by his slip; l: a TAIL of 2 in each night, or 2 LOST
        String end = ";man m misled t slip 0;man l clean slip 0;shows a,b";
        ReelChange tails = Check.open("house apart 10 motor 0 leader 10 burns 1 trim 0 mend 0;reel a frames 50 first 38 whole 50;reel b frames 50 first 0 whole 50;town t trust 5;mark a 41 by t" + end);
        Check.row("1 BLACK, or a TAIL of 2", new long[] {tails.dark(0, 0), tails.dark(1, 0), tails.tail(1, 0), tails.bestMan(0, 1), tails.bestMan(0, 20)}, 1, 0, 2, 0, 0);
        ReelChange tail = Check.open("house apart 10 motor 0 leader 10 burns 1 trim 0 mend 0;reel a frames 50 first 39 whole 50;reel b frames 50 first 0 whole 50;town t trust 5;mark a 42 by t" + end);
        Check.row("2 BLACK, or a TAIL of 1", new long[] {tail.bestMan(0, 1), tail.bestMan(0, 20)}, 1, 1);
        ReelChange lost = Check.open("house apart 10 motor 0 leader 7 burns 1 trim 0 mend 0;reel a frames 50 first 40 whole 50;reel b frames 50 first 0 whole 50;town t trust 5;mark a 45 by t" + end);
        Check.row("2 BLACK, or 3 LOST", new long[] {lost.black(0, 1), lost.lost(1, 1), lost.bestMan(0, 1)}, 2, 3, 0);
        // by l all of b goes by, so its weak place isn't drawn; by m b is shown and snaps: 5 and 24
        ReelChange dark = Check.open("house apart 10 motor 0 leader 7 burns 1 trim 0 mend 500;reel a frames 50 first 10 whole 50;reel b frames 2 first 0 whole 50;town t trust 5;mark a 48 by t"
                + ";weak b 1 snaps 25" + end);
        Check.row("505 DARK, or 2 LOST and a TAIL of 30", new long[] {dark.dark(0, 0), dark.all(1, 0), dark.all(1, 2), dark.bestMan(0, 1)}, 505, 2, 30, 1);
        Check.row("90 is no snap by 25: 5 BLACK", new long[] {dark.dark(0, 5624), dark.bestMan(5624, 1)}, 5, 0);
        ReelChange fewer = Check.open("house apart 10 motor 0 leader 9 burns 1 trim 0 mend 0;reel a frames 50 first 40 whole 50;reel b frames 50 first 0 whole 50;town t trust 5;mark a 43 by t" + end);
        Check.row("2 BLACK, or 1 LOST", new long[] {fewer.black(0, 1), fewer.lost(1, 1), fewer.bestMan(0, 1)}, 2, 1, 1);
    }

    private static void bestOfLikeMen() {
        Check.holds(47, "the first such");
        ReelChange like = Check.open(slipIsBlack(";man m clean slip 9;man n clean slip 9;man o clean slip 9", "a,b;weak a 1 snaps 50"));
        Check.row("like men", new long[] {like.bestMan(0, 1), like.bestMan(5, 20)}, 0, 0);
        ReelChange last = Check.open(slipIsBlack(";man m clean slip 40;man n clean slip 40;man o clean slip 40;man p clean slip 0", "a,b"));
        Check.row("the last", new long[] {last.bestMan(0, 1), last.bestMan(0, 20)}, 3, 3);
        ReelChange one = Check.open(slipIsBlack(";man m clean slip 40", "a,b"));
        Check.due("one alone", one.bestMan(0, 20), 0);
    }

    private static void bestManRefused() {
        Check.holds(47, "BEST MAN over n (1 .. 20) NIGHTS. NONE: 1 (no HOUSE); 2.");
        ReelChange x = Check.open(slipIsBlack(";man m clean slip 40;man n clean slip 0", "a,b"));
        for (int n : new int[] {-1, 0, 21, Integer.MIN_VALUE, Integer.MAX_VALUE}) {
            Check.refused(x, 2, "bestMan(0, " + n + ")", () -> x.bestMan(0, n));
        }
        for (int seed : new int[] {-1, 65537, Integer.MIN_VALUE, Integer.MAX_VALUE}) {
            Check.refused(x, 2, "bestMan(" + seed + ", 1)", () -> x.bestMan(seed, 1));
        }
        for (int n : new int[] {1, 2, 19, 20}) {
            Check.told(x, "bestMan(0, " + n + ")", () -> x.bestMan(0, n), 1);
            Check.told(x, "bestMan(65536, " + n + ")", () -> x.bestMan(65536, n), 1);
        }
        ReelChange none = new ReelChange();
        Check.refused(none, 1, "bestMan without a house", () -> none.bestMan(0, 1));
        Check.refused(none, 1, "1 goes ahead of 2", () -> none.bestMan(-1, 0));
    }
}

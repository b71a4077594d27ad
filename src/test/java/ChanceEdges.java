/** Edges of promises 31 to 39: marks by trust, scratches, joins, weak places. */
final class ChanceEdges {
    private ChanceEdges() {
    }

    static void all() {
        within();
        unlike();
        trulyRefused();
        likeliest();
        scratched();
        nearest();
        nobody();
        missing();
        words();
        holds();
        pays();
        wears();
    }

    private static String reel(int first, String marks) {
        return Texts.HOUSE + ";reel a frames 90 first " + first + " whole 90;town t trust 8;town u trust 8;town v trust 1;town w trust 9" + marks + ";man m clean slip 0;shows a,a";
    }

    private static void chance(ReelChange x, int frame, long upper, long lower) {
        Check.told(x, "truly(0, " + frame + ", false)", () -> x.truly(0, frame, false), upper);
        Check.told(x, "truly(0, " + frame + ", true)", () -> x.truly(0, frame, true), lower);
    }

    private static void within() {
        Check.holds(31, "for each town with a mark there its trust, if its mark is within 2 of it, else 10 less trust, multiplied");
        for (int side : new int[] {-1, 1}) {
            // within 2 both have 8, beyond FIRST has 2 and the mark 8
            for (int off = 1; off <= 4; off++) {
                ReelChange x = Check.open(reel(20, ";mark a " + (20 + side * off) + " by t"));
                chance(x, 20, 1, off <= 2 ? 2 : 5);
                chance(x, 20 + side * off, off <= 2 ? 1 : 4, off <= 2 ? 2 : 5);
            }
        }
        ReelChange at = Check.open(reel(20, ";mark a 20 by t"));
        chance(at, 20, 1, 1);
        ReelChange all = Check.open(reel(20, ";mark a 18 by t;mark a 22 by u;mark a 23 by v;mark a 20 by w"));
        // 18: t w of it: 8 2 9 9; 20: t u w: 8 8 9 9; 22: u v w: 2 8 1 9; 23: u v: 2 8 1 1
        chance(all, 18, 1296 / 16, (1296 + 5184 + 144 + 16) / 16);
        chance(all, 20, 5184 / 16, 6640 / 16);
        chance(all, 22, 9, 415);
        chance(all, 23, 1, 415);
        ReelChange none = Check.open(reel(20, ""));
        chance(none, 20, 1, 1);
    }

    private static void unlike() {
        Check.holds(31, "of all these frames (unlike ones) together, as a fraction.");
        ReelChange x = Check.open(reel(20, ";mark a 20 by t;mark a 30 by u;mark a 30 by v"));
        // 20: 8 2 9; 30: 2 8 1
        chance(x, 20, 9, 10);
        chance(x, 30, 1, 10);
        ReelChange both = Check.open(reel(20, ";mark a 30 by u;mark a 30 by t"));
        // 20: 2 2; 30: 8 8
        chance(both, 20, 1, 17);
        chance(both, 30, 16, 17);
        ReelChange like = Check.open(reel(20, ";mark a 20 by t;mark a 20 by u;mark a 20 by v;mark a 20 by w"));
        chance(like, 20, 1, 1);
        ReelChange other = Check.open(reel(20, ";reel b frames 90 first 20 whole 90;mark b 21 by t;mark a 40 by u"));
        chance(other, 20, 1, 5);
        Check.refused(other, 1, "a mark of another reel", () -> other.truly(0, 21, false));
    }

    private static void trulyRefused() {
        Check.holds(31, "CHANCE of a frame, the upper WHOLE or the lower, in lowest terms. -1: 1 (reel; no FIRST nor mark is there).");
        ReelChange x = Check.open(reel(20, ";mark a 0 by t;mark a 89 by u"));
        for (int frame : new int[] {-1, 1, 19, 21, 88, 90, Integer.MIN_VALUE, Integer.MAX_VALUE}) {
            Check.refused(x, 1, "truly(0, " + frame + ", false)", () -> x.truly(0, frame, false));
            Check.refused(x, 1, "truly(0, " + frame + ", true)", () -> x.truly(0, frame, true));
        }
        for (int r : new int[] {-1, 1, 8, Integer.MIN_VALUE, Integer.MAX_VALUE}) {
            Check.refused(x, 1, "truly(" + r + ", 20, false)", () -> x.truly(r, 20, false));
            Check.refused(x, 1, "truly(" + r + ", 20, true)", () -> x.truly(r, 20, true));
        }
        // 0: 8 2, 20: 2 2, 89: 2 8
        chance(x, 0, 4, 9);
        chance(x, 20, 1, 9);
        chance(x, 89, 4, 9);
        ReelChange none = new ReelChange();
        Check.refused(none, 1, "truly without a house", () -> none.truly(0, 0, false));
    }

    private static void likeliest() {
        Check.holds(32, "LIKELIEST: the greatest, the least frame of like ones.");
        Check.due("FIRST alone", Check.open(reel(20, "")).likeliest(0), 20);
        Check.due("a mark of 8 tenths", Check.open(reel(20, ";mark a 40 by t")).likeliest(0), 40);
        Check.due("one of 1 tenth", Check.open(reel(20, ";mark a 40 by v")).likeliest(0), 20);
        Check.due("of like ones behind FIRST", Check.open(reel(20, ";mark a 22 by t")).likeliest(0), 20);
        Check.due("of like ones ahead of FIRST", Check.open(reel(20, ";mark a 18 by t")).likeliest(0), 18);
        Check.due("of like marks the one told later", Check.open(reel(20, ";mark a 60 by t;mark a 40 by u")).likeliest(0), 40);
        Check.due("of like marks the one told sooner", Check.open(reel(20, ";mark a 40 by t;mark a 60 by u")).likeliest(0), 40);
        Check.due("three like ones", Check.open(reel(50, ";mark a 52 by t;mark a 51 by u")).likeliest(0), 50);
        Check.holds(32, "`int likeliest(int r)`: LIKELIEST. NONE: 1.");
        ReelChange x = Check.open(reel(20, ""));
        Check.told(x, "likeliest(0)", () -> x.likeliest(0), 20);
        for (int r : new int[] {-1, 1, Integer.MIN_VALUE, Integer.MAX_VALUE}) {
            Check.refused(x, 1, "likeliest(" + r + ")", () -> x.likeliest(r));
        }
        ReelChange none = new ReelChange();
        Check.refused(none, 1, "likeliest without a house", () -> none.likeliest(0));
    }

    /** Two reels whose FIRST are 20 and 50; t marks 5 behind FIRST, u 5 ahead of it. */
    private static String twoReels(String scratches) {
        return Texts.HOUSE + ";reel a frames 90 first 20 whole 90;reel b frames 90 first 50 whole 90;town s trust 1;town t trust 8;town u trust 8"
                + ";mark a 15 by u;mark b 55 by t;man m clean slip 0;shows a,b" + scratches;
    }

    private static void scratched() {
        Check.holds(33, "SCRATCHED: the town (with marks) one of whose marks is as far behind FIRST of its reel (or ahead of it) as the scratch is behind that of its own, or is nearest to that; the first such");
        int[][] due = {{25, 1, 0}, {26, 1, 1}, {24, 1, 1}, {15, 2, 0}, {14, 2, 1}, {16, 2, 1}, {21, 1, 4}, {20, 1, 5}, {19, 2, 4}, {0, 2, 15}, {89, 1, 64}};
        for (int[] row : due) {
            ReelChange x = Check.open(twoReels(";scratch a " + row[0]));
            Check.told(x, "who of a scratch at " + row[0], () -> x.who(0), row[1]);
            Check.told(x, "far of a scratch at " + row[0], () -> x.far(0), row[2]);
            ReelChange y = Check.open(twoReels(";scratch b 3;scratch b " + Math.min(row[0] + 30, 89)));
            Check.row("as far behind that of its own: " + row[0], new long[] {y.who(1), y.far(1)}, row[1], row[0] < 89 ? row[2] : 34);
        }
        Check.holds(33, "SCRATCHED; -2 nobody has marks. NONE: 1.");
        ReelChange x = Check.open(twoReels(";scratch a 25;scratch a 15"));
        Check.row("each", new long[] {x.who(0), x.who(1)}, 1, 2);
        for (int scratch : new int[] {-1, 2, 6, Integer.MIN_VALUE, Integer.MAX_VALUE}) {
            Check.refused(x, 1, "who(" + scratch + ")", () -> x.who(scratch));
            Check.refused(x, 1, "far(" + scratch + ")", () -> x.far(scratch));
        }
        ReelChange none = new ReelChange();
        Check.refused(none, 1, "who without a house", () -> none.who(0));
        Check.refused(none, 1, "far without a house", () -> none.far(0));
        ReelChange no = Check.open(twoReels(""));
        Check.refused(no, 1, "who without a scratch", () -> no.who(0));
        Check.refused(no, 1, "far without a scratch", () -> no.far(0));
    }

    private static void nearest() {
        Check.holds(34, "FAR: by how much it isn't.");
        String more = Texts.HOUSE + ";reel a frames 90 first 20 whole 90;reel b frames 90 first 50 whole 90;town t trust 8;town u trust 8"
                + ";mark a 40 by u;mark b 80 by t;mark b 52 by u;mark a 18 by t;man m clean slip 0;shows a,b;scratch a ";
        // t: 30 behind and 2 ahead; u: 20 behind and 2 behind
        int[][] due = {{44, 1, 4}, {45, 0, 5}, {46, 0, 4}, {20, 0, 2}, {21, 1, 1}, {19, 0, 1}, {50, 0, 0}, {40, 1, 0}};
        for (int[] row : due) {
            ReelChange x = Check.open(more + row[0]);
            Check.row("a scratch at " + row[0], new long[] {x.who(0), x.far(0)}, row[1], row[2]);
        }
    }

    private static void nobody() {
        Check.holds(34, "`int far(int scratch)`: FAR; -2. NONE: 1.");
        ReelChange x = Check.open(Texts.GOOD + ";scratch a 3");
        Check.told(x, "who", () -> x.who(0), -2);
        Check.told(x, "far", () -> x.far(0), -2);
        ReelChange y = Check.open(Texts.GOOD + ";scratch a 3;mark b 0 by t");
        Check.row("one mark", new long[] {y.who(0), y.far(0)}, 0, 3);
    }

    private static void missing() {
        Check.holds(35, "MISSING of a reel: whole less frames; UNTOLD: less what its joins lack (below 0: 0).");
        int[][] due = {{9, 0, 0, 0}, {10, 1, 1, 1}, {14, 5, 4, 1}, {14, 5, 5, 0}, {14, 5, 6, 0}, {14, 5, 99, 0}, {2000, 1991, 99, 1892}};
        for (int[] row : due) {
            String lacks = row[2] == 0 || row[0] == 10 ? "" : ";join a 3 lacks " + row[2];
            ReelChange x = Check.open(Texts.GOOD.replace("reel a frames 9 first 0 whole 9", "reel a frames 9 first 0 whole " + row[0]) + lacks + ";join b 1 lacks 9");
            Check.told(x, "missing of " + row[0], () -> x.missing(0, false), row[1]);
            Check.told(x, "untold of " + row[0] + lacks, () -> x.missing(0, true), row[3]);
        }
        ReelChange two = Check.open(Texts.GOOD.replace("reel a frames 9 first 0 whole 9", "reel a frames 9 first 0 whole 19") + ";join a 3 lacks 4;join a 3 lacks 5;weak a 1 snaps 1");
        Check.row("two joins", new long[] {two.missing(0, false), two.missing(0, true)}, 10, 1);
        two.mend(0);
        Check.row("a mended place lacks 2, and 2 are fewer", new long[] {two.missing(0, false), two.missing(0, true)}, 12, 1);
        Check.holds(35, "MISSING of a reel, or (untold) UNTOLD. NONE: 1.");
        for (int r : new int[] {-1, 2, Integer.MIN_VALUE, Integer.MAX_VALUE}) {
            Check.refused(two, 1, "missing(" + r + ", false)", () -> two.missing(r, false));
            Check.refused(two, 1, "missing(" + r + ", true)", () -> two.missing(r, true));
            Check.refused(two, 1, "words(" + r + ")", () -> two.words(r));
        }
        ReelChange none = new ReelChange();
        Check.refused(none, 1, "missing without a house", () -> none.missing(0, false));
        Check.refused(none, 1, "words without a house", () -> none.words(0));
    }

    private static void words() {
        Check.holds(36, "WORDS lost: joins at which 24 or more lack.");
        int[][] due = {{1, 0}, {23, 0}, {24, 1}, {25, 1}, {99, 1}};
        for (int[] row : due) {
            ReelChange x = Check.open(Texts.GOOD + ";join a 3 lacks " + row[0] + ";join b 3 lacks 24");
            Check.told(x, "words, " + row[0] + " lack", () -> x.words(0), row[1]);
        }
        ReelChange x = Check.open(Texts.GOOD + Texts.times(";join a 3 lacks 12", 4) + Texts.times(";join a 3 lacks 24", 3) + ";weak a 3 snaps 9");
        Check.row("each by itself", new long[] {x.words(0), x.words(1)}, 3, 0);
        x.mend(0);
        Check.due("what mending lacks is no word", x.words(0), 3);
        Check.holds(36, "WORDS lost. NONE: 1.");
        Check.refused(x, 1, "words(2)", () -> x.words(2));
        Check.refused(x, 1, "words(-1)", () -> x.words(-1));
    }

    private static void holds() {
        Check.holds(37, "How likely a weak place holds n nights (0 .. 4), likewise (0 by 1). -1: 1 (MENDED, too); 2.");
        ReelChange x = Check.open(Texts.GOOD + ";weak a 3 snaps 99;weak a 4 snaps 1;weak b 4 snaps 50");
        long[][] due = {
            // n, then upper and lower of 1, 99 and 50 of a hundred
            {0, 1, 1, 1, 1, 1, 1}, {1, 1, 100, 99, 100, 1, 2}, {3, 1, 1000000, 970299, 1000000, 1, 8}, {4, 1, 100000000, 96059601, 100000000, 1, 16}
        };
        for (long[] row : due) {
            int n = (int) row[0];
            for (int w = 0; w < 3; w++) {
                int weak = w;
                Check.told(x, "holds(" + w + ", " + n + ", false)", () -> x.holds(weak, n, false), row[1 + 2 * w]);
                Check.told(x, "holds(" + w + ", " + n + ", true)", () -> x.holds(weak, n, true), row[2 + 2 * w]);
            }
        }
        for (int n : new int[] {-1, 5, Integer.MIN_VALUE, Integer.MAX_VALUE}) {
            Check.refused(x, 2, "holds(0, " + n + ")", () -> x.holds(0, n, true));
            Check.refused(x, 2, "pays(0, " + n + ")", () -> x.pays(0, n));
            Check.refused(x, 1, "holds(3, " + n + "): 1 goes ahead of 2", () -> x.holds(3, n, true));
            Check.refused(x, 1, "pays(3, " + n + "): 1 goes ahead of 2", () -> x.pays(3, n));
        }
        for (int weak : new int[] {-1, 3, 6, Integer.MIN_VALUE, Integer.MAX_VALUE}) {
            Check.refused(x, 1, "holds(" + weak + ", 1)", () -> x.holds(weak, 1, false));
            Check.refused(x, 1, "pays(" + weak + ", 1)", () -> x.pays(weak, 1));
        }
        x.mend(1);
        Check.refused(x, 1, "holds of one MENDED", () -> x.holds(1, 1, false));
        Check.refused(x, 1, "holds of one MENDED, n 5", () -> x.holds(1, 5, false));
        Check.refused(x, 1, "pays of one MENDED", () -> x.pays(1, 1));
        Check.told(x, "one that isn't", () -> x.holds(2, 1, true), 2);
        x.undo();
        Check.told(x, "it is weak again", () -> x.holds(1, 1, false), 99);
        ReelChange none = new ReelChange();
        Check.refused(none, 1, "holds without a house", () -> none.holds(0, 0, false));
        Check.refused(none, 1, "pays without a house", () -> none.pays(0, 0));
    }

    private static void pays() {
        Check.holds(38, "MEND pays, if what is lost by a snap (mend ticks) by its chance to snap in n nights is more than 2.");
        int[][] due = {
            // mend ticks, snaps, nights, whether: a half of 4 is just 2; 2 of a hundred of 100; three quarters of 3 is 2.25
            {3, 50, 1, 0}, {4, 50, 1, 0}, {5, 50, 1, 1}, {99, 2, 1, 0}, {100, 2, 1, 0}, {101, 2, 1, 1}, {2, 50, 2, 0}, {3, 50, 2, 1}, {0, 99, 4, 0}, {2, 99, 4, 0}, {3, 99, 4, 1},
            {999, 1, 1, 1}, {200, 1, 1, 0}, {201, 1, 1, 1}, {999, 99, 0, 0}, {50, 1, 4, 0}, {51, 1, 4, 1}, {3, 67, 1, 1}, {3, 66, 1, 0}
        };
        for (int[] row : due) {
            ReelChange x = Check.open(Texts.GOOD.replace("mend 0", "mend " + row[0]) + ";weak a 3 snaps " + row[1]);
            Check.told(x, "mend " + row[0] + ", snaps " + row[1] + ", nights " + row[2], () -> x.pays(0, row[2]), row[3]);
        }
        Check.holds(38, "Whether MEND pays: 1, 0. NONE: likewise.");
        ReelChange x = Check.open(Texts.GOOD + ";weak a 3 snaps 1");
        Check.refused(x, 1, "pays(1, 0)", () -> x.pays(1, 0));
        Check.refused(x, 2, "pays(0, 5)", () -> x.pays(0, 5));
    }

    private static void wears() {
        Check.holds(39, "WEARS: the mean of frames that n nights take of a reel by its weak places (each snaps by its chance each night, each time 2).");
        ReelChange x = Check.open(Texts.GOOD + ";weak a 3 snaps 1;weak a 4 snaps 99;weak b 3 snaps 7");
        long[][] due = {{0, 0, 0, 1}, {0, 1, 2, 1}, {0, 99, 198, 1}, {1, 0, 0, 1}, {1, 1, 7, 50}, {1, 50, 7, 1}, {1, 98, 343, 25}, {1, 99, 693, 50}};
        for (long[] row : due) {
            int r = (int) row[0];
            int n = (int) row[1];
            Check.told(x, "wears(" + r + ", " + n + ", false)", () -> x.wears(r, n, false), row[2]);
            Check.told(x, "wears(" + r + ", " + n + ", true)", () -> x.wears(r, n, true), row[3]);
        }
        Check.holds(39, "WEARS by n nights (0 .. 99), likewise. -1: 1; 2.");
        for (int n : new int[] {-1, 100, Integer.MIN_VALUE, Integer.MAX_VALUE}) {
            Check.refused(x, 2, "wears(0, " + n + ")", () -> x.wears(0, n, false));
            Check.refused(x, 1, "wears(2, " + n + "): 1 goes ahead of 2", () -> x.wears(2, n, false));
        }
        Check.refused(x, 1, "wears(-1, 1)", () -> x.wears(-1, 1, true));
        Check.refused(x, 1, "wears(2, 1)", () -> x.wears(2, 1, true));
        x.mend(1);
        Check.row("one that is MENDED takes none", new long[] {x.wears(0, 50, false), x.wears(0, 50, true)}, 1, 1);
        x.mend(0);
        Check.row("0 by 1", new long[] {x.wears(0, 99, false), x.wears(0, 99, true), x.trouble()}, 0, 1, 0);
        ReelChange six = Check.open(Texts.GOOD + Texts.times(";weak a @ snaps 99", 6));
        Check.row("six of 99 in a hundred, 99 nights", new long[] {six.wears(0, 99, false), six.wears(0, 99, true)}, 29403, 25);
        ReelChange none = new ReelChange();
        Check.refused(none, 1, "wears without a house", () -> none.wears(0, 0, false));
    }
}

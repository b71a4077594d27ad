/** Edges of promises 40 to 45: two houses, boys, orders. */
final class RideEdges {
    private RideEdges() {
    }

    static void all() {
        refused();
        rides();
        waits();
        longWaits();
        runsOut();
        boys();
        lengths();
        well();
        wrong();
        exchanges();
    }

    /** Reels of ten frames that are shown whole, one behind the other. */
    private static String tens(String shows, String boys) {
        return Texts.HOUSE.replace("leader 0", "leader 1") + Texts.times(";reel # frames 10 first 9 whole 10", 8) + ";man m clean slip 0;shows " + shows + boys;
    }

    private static void refused() {
        Check.holds(40, "APART by so many boys (1 .. 4; 0: as many as are told). NONE: 1; 6 (no boys told); 2.");
        ReelChange no = Check.open(tens("a,b", ""));
        ReelChange x = Check.open(tens("a,b", ";boys 3 ride 6 falls 9"));
        ReelChange none = new ReelChange();
        for (int boys : new int[] {-1, 5, Integer.MIN_VALUE, Integer.MAX_VALUE}) {
            Check.refused(x, 2, "apart(0, " + boys + ")", () -> x.apart(0, boys));
            Check.refused(x, 1, "apart(1, " + boys + "): 1 goes ahead of 2", () -> x.apart(1, boys));
            Check.refused(no, 6, "apart(0, " + boys + "): 6 goes ahead of 2", () -> no.apart(0, boys));
            Check.refused(no, 1, "apart(-1, " + boys + "): 1 goes ahead of 6", () -> no.apart(-1, boys));
            Check.refused(x, 2, "waits(0, " + boys + ", 0)", () -> x.waits(0, boys, 0));
            Check.refused(x, 2, "waits(0, " + boys + ", -1)", () -> x.waits(0, boys, -1));
        }
        for (int boys = 0; boys <= 4; boys++) {
            int many = boys;
            Check.told(x, "apart(0, " + boys + ")", () -> x.apart(0, many), boys == 1 ? 18 : 16);
            Check.refused(no, 6, "apart(0, " + boys + ") without boys", () -> no.apart(0, many));
            Check.refused(x, 1, "apart(1, " + boys + ")", () -> x.apart(1, many));
        }
        Check.refused(none, 1, "apart without a house", () -> none.apart(0, 9));
        Check.holds(41, "WAITS by so many boys (0: as told), so many ticks later (0 .. 9,999). NONE: 1; 6; 2.");
        for (int later : new int[] {-1, 10000, Integer.MIN_VALUE, Integer.MAX_VALUE}) {
            Check.refused(x, 2, "waits(0, 0, " + later + ")", () -> x.waits(0, 0, later));
            Check.refused(x, 1, "waits(1, 9, " + later + "): 1 goes ahead of 2", () -> x.waits(1, 9, later));
            Check.refused(no, 6, "waits(0, 9, " + later + "): 6 goes ahead of 2", () -> no.waits(0, 9, later));
            Check.refused(no, 1, "waits(1, 9, " + later + "): 1 goes ahead of 6", () -> no.waits(1, 9, later));
        }
        Check.told(x, "waits(0, 0, 0)", () -> x.waits(0, 0, 0), 16);
        Check.told(x, "waits(0, 3, 1)", () -> x.waits(0, 3, 1), 15);
        Check.told(x, "waits(0, 1, 0)", () -> x.waits(0, 1, 0), 18);
        Check.told(x, "waits(0, 0, 9998)", () -> x.waits(0, 0, 9998), 0);
        Check.told(x, "waits(0, 4, 9999)", () -> x.waits(0, 4, 9999), 0);
        Check.refused(none, 1, "waits without a house", () -> none.waits(0, 0, 0));
        Check.holds(42, "`int boys(int man)`: BOYS. NONE: 1; 6.");
        Check.told(x, "boys(0)", () -> x.boys(0), 2);
        Check.refused(x, 1, "boys(1)", () -> x.boys(1));
        Check.refused(x, 1, "boys(-1)", () -> x.boys(-1));
        Check.refused(no, 6, "boys(0) without boys", () -> no.boys(0));
        Check.refused(no, 1, "boys(1): 1 goes ahead of 6", () -> no.boys(1));
        Check.refused(none, 1, "boys without a house", () -> none.boys(0));
        Check.holds(43, "WELL, likewise. -1: 1 (no HOUSE); 6.");
        Check.told(x, "well(false)", () -> x.well(false), 8281);
        Check.told(x, "well(true)", () -> x.well(true), 10000);
        Check.refused(no, 6, "well without boys", () -> no.well(false));
        Check.refused(none, 1, "well without a house", () -> none.well(true));
    }

    /** Left at 10 and 20: a boy with a ride of 5 is back at 20, in time for the second. */
    private static void rides() {
        Check.holds(40, "it takes ride ticks, and he is back as many later. APART: the least number of ticks that the second house must begin later so that it never waits.");
        int[][] due = {{1, 11, 11}, {4, 14, 14}, {5, 15, 15}, {6, 18, 16}, {7, 21, 17}, {2000, 6000, 2010}};
        for (int[] row : due) {
            ReelChange x = Check.open(tens("a,b", ";boys 1 ride " + row[0] + " falls 0"));
            Check.row("ride " + row[0], new long[] {x.apart(0, 1), x.apart(0, 0), x.apart(0, 2), x.apart(0, 4)}, row[1], row[1], row[2], row[2]);
            for (int later : new int[] {row[1] - 1, row[1], row[1] + 1}) {
                Check.due("by one boy, " + later + " later, ride " + row[0], x.waits(0, 1, later), Math.max(row[1] - later, 0));
            }
        }
        Check.holds(40, "Boys carry them in order, one at a time: a reel can go when the first house has changed away from it (or it has run out), by the boy who is back first"
                + " (the least number of like ones)");
        // left at 10, 20, 30, 40; two boys with a ride of 8: there at 18 and 28, back at 26 and 36, so there at 38 (30, the first boy) and 48
        ReelChange two = Check.open(tens("a,b,c,d", ";boys 2 ride 8 falls 0"));
        Check.row("two boys in turn", new long[] {two.apart(0, 2), two.apart(0, 1), two.apart(0, 3)}, 18, 10 + 8 + 3 * 6, 18);
        ReelChange late = Check.open(tens("a,b,c,d", ";boys 2 ride 12 falls 0"));
        // there at 22 and 32, back at 34 and 44, there at 46 and 56: 26 behind 20 and 30
        Check.row("and too late", new long[] {late.apart(0, 2), late.apart(0, 3), late.apart(0, 4)}, 26, 22, 22);
    }

    private static void waits() {
        Check.holds(41, "WAITS: if the second house begins so many ticks later, how long it waits in all: for each reel till it is there; all behind that is as much later.");
        // one boy, ride 6: there at 16, 28 and 40
        ReelChange x = Check.open(tens("a,b,c", ";boys 1 ride 6 falls 0"));
        int[][] due = {{0, 20}, {15, 5}, {16, 4}, {17, 3}, {18, 2}, {19, 1}, {20, 0}, {21, 0}};
        for (int[] row : due) {
            Check.due(row[0] + " later", x.waits(0, 1, row[0]), row[1]);
        }
        Check.due("by two boys", x.waits(0, 2, 15), 1);
    }

    private static void longWaits() {
        Check.holds(41, "so many ticks later (0 .. 9,999)");
        ReelChange x = Check.open(Texts.HOUSE.replace("leader 0", "leader 1") + ";reel a frames 2000 first 1999 whole 2000;man m clean slip 0;shows a,a,a,a,a,a,a,a;boys 1 ride 2000 falls 0");
        Check.row("one boy brings a reel each 4000 ticks", new long[] {x.apart(0, 0), x.waits(0, 0, 0), x.waits(0, 0, 9998), x.waits(0, 0, 9999)}, 18000, 18000, 8002, 8001);
    }

    private static void runsOut() {
        Check.holds(40, "a reel can go when the first house has changed away from it (or it has run out)");
        ReelChange x = Check.open("house apart 10 motor 0 leader 10 burns 1 trim 0 mend 0;reel a frames 30 first 5 whole 30;reel b frames 90 first 5 whole 90;man m clean slip 0;shows a,b;boys 1 ride 1 falls 0");
        Check.row("a is left at 15 with a TAIL of 15; b runs out at 105", new long[] {x.apart(0, 1), x.length(0), x.waits(0, 1, 90), x.waits(0, 1, 91)}, 91, 105, 1, 0);
    }

    private static void boys() {
        Check.holds(42, "BOYS: the fewest (1 .. 4) with which APART is no more than with 4.");
        int[][] due = {{5, 1}, {6, 2}, {10, 2}, {11, 3}, {15, 3}, {16, 4}, {20, 4}, {21, 4}, {2000, 4}};
        for (int[] row : due) {
            ReelChange x = Check.open(tens("a,b,c,d,e,f,g,h", ";boys 1 ride " + row[0] + " falls 0"));
            Check.due("ride " + row[0], x.boys(0), row[1]);
        }
        ReelChange three = Check.open(tens("a,b,c", ";boys 4 ride 2000 falls 0"));
        Check.row("three reels need no fourth", new long[] {three.boys(0), three.apart(0, 3), three.apart(0, 4)}, 3, 2010, 2010);
        ReelChange two = Check.open(tens("a,b", ";boys 4 ride 2000 falls 0"));
        Check.due("two no third", two.boys(0), 2);
    }

    private static void lengths() {
        Check.holds(40, "TWO HOUSES: the second one shows the same reels, each as long as in the NIGHT of that man.");
        // a is shown 15 ticks, 3 are LOST of the second, so it lasts 12, and 27 the third
        String text = "house apart 10 motor 0 leader 7 burns 1 trim 0 mend 0;reel a frames 30 first 5 whole 30;man m clean slip 0;shows a,a,a;boys 4 ride 1 falls 0";
        ReelChange x = Check.open(text);
        Check.row("left at 15, 27, 54: there at 16, 28, 55; begun at 0, 15, 27", new long[] {x.apart(0, 4), x.length(0), x.waits(0, 4, 27), x.waits(0, 4, 28)}, 28, 54, 1, 0);
        x.threads(1, 30);
        // 20 BLACK ahead of the second: left at 15, 50, 77; as long as they are: 15, 15, 27
        Check.row("left at 15, 50, 77: there at 16, 51, 78; begun at 0, 15, 30", new long[] {x.apart(0, 4), x.length(0)}, 48, 77);
    }

    private static void well() {
        Check.holds(43, "WELL: how likely no boy falls, the first reel's way too.");
        Object[][] due = {
            {"a,b", 0, 1L, 1L}, {"a,b", 1, 9801L, 10000L}, {"a,b", 50, 1L, 4L}, {"a,b", 49, 2601L, 10000L}, {"a,b,c", 50, 1L, 8L}, {"a,b,c", 20, 64L, 125L},
            {"a,b,c,d,e,f,g,h", 50, 1L, 256L}, {"a,b,c,d,e,f,g,h", 1, 9227446944279201L, 10000000000000000L}, {"a,b,c,d,e,f,g,h", 0, 1L, 1L}, {"a,a", 10, 81L, 100L}
        };
        for (Object[] row : due) {
            for (int boys = 1; boys <= 4; boys += 3) {
                ReelChange x = Check.open(tens((String) row[0], ";boys " + boys + " ride 1 falls " + row[1]));
                Check.told(x, "upper, " + row[0] + " falls " + row[1], () -> x.well(false), (Long) row[2]);
                Check.told(x, "lower, " + row[0] + " falls " + row[1], () -> x.well(true), (Long) row[3]);
            }
        }
    }

    private static void wrong() {
        Check.holds(44, "WRONG: reels in shows that come behind one of a greater number (as told in I), of like ones again.");
        Object[][] due = {
            {"a,b", 0}, {"b,a", 2}, {"a,a", 2}, {"a,b,c,d,e,f,g,h", 0}, {"h,g,f,e,d,c,b,a", 254}, {"b,c,d,e,f,g,h,a", 128}, {"h,a,b,c,d,e,f,g", 254}, {"a,c,b,d", 4},
            {"a,b,a,c", 4}, {"a,b,b,c", 4}, {"b,d,a,c", 12}, {"a,a,a,a,a,a,a,a", 254}, {"c,d,c,d", 12}
        };
        for (Object[] row : due) {
            ReelChange x = Check.open(tens((String) row[0], ""));
            Check.told(x, "wrong of " + row[0], x::wrong, (Integer) row[1]);
        }
        Check.holds(44, "WRONG, as bits of places. NONE: 1 (no HOUSE).");
        ReelChange none = new ReelChange();
        Check.refused(none, 1, "wrong without a house", none::wrong);
    }

    private static void exchanges() {
        Check.holds(45, "SOONEST right: the fewest exchanges of two, by which the reels shown go up (or stay).");
        Object[][] due = {
            {"a,b", 0}, {"b,a", 1}, {"a,a", 0}, {"a,b,c,d,e,f,g,h", 0}, {"b,c,d,e,f,g,h,a", 7}, {"h,g,f,e,d,c,b,a", 4}, {"a,b,c,d,e,f,h,g", 1}, {"b,a,d,c,f,e,h,g", 4},
            {"b,c,a,e,f,d,h,g", 5}, {"b,b,a,a", 2}, {"b,a,b,a", 1}, {"a,a,b,b", 0}, {"b,c,a,c,a,b", 3}, {"c,c,b,b,a,a", 2}, {"h,a,a,a,a,a,a,a", 1}, {"b,b,b,b,a,a,a,a", 4},
            {"c,a,b,b,c,a", 1}, {"h,h", 0}
        };
        for (Object[] row : due) {
            ReelChange x = Check.open(tens((String) row[0], ""));
            Check.told(x, "exchanges of " + row[0], x::exchanges, (Integer) row[1]);
        }
        Check.holds(45, "SOONEST right. NONE: 1 (no HOUSE).");
        ReelChange none = new ReelChange();
        Check.refused(none, 1, "exchanges without a house", none::exchanges);
    }
}

/** Promises 10 to 24: a night by a man. */
public final class NightTest {
    public static void main(String[] args) {
        refused();
        believes();
        startsAndChanges();
        goneBy();
        goneByAtTheEnd();
        black();
        startsWhereTheReelBegins();
        sums();
        exact();
        signs();
        slips();
        Check.end("NightTest");
    }

    private static void noSuch(ReelChange x, String call, int got) {
        Check.due(call, got, -1);
        Check.due(call + " trouble", x.trouble(), 1);
        x.wrong();
    }

    private static void refused() {
        ReelChange none = new ReelChange();
        noSuch(none, "believes without a house", none.believes(0, 0));
        noSuch(none, "length without a house", none.length(0));
        noSuch(none, "fits without a house", none.fits());
        noSuch(none, "bestSlip without a house", none.bestSlip(0));
        ReelChange x = Check.open(Houses.THREE);
        int[][] wrong = {{-1, 0}, {4, 0}, {0, -1}, {0, 3}, {Integer.MAX_VALUE, Integer.MIN_VALUE}};
        for (int[] at : wrong) {
            noSuch(x, "believes", x.believes(at[0], at[1]));
            noSuch(x, "starts", x.starts(at[0], at[1]));
            noSuch(x, "changes", x.changes(at[0], at[1]));
            noSuch(x, "lost", x.lost(at[0], at[1]));
            noSuch(x, "black", x.black(at[0], at[1]));
            noSuch(x, "tail", x.tail(at[0], at[1]));
            noSuch(x, "begins", x.begins(at[0], at[1]));
            noSuch(x, "exact", x.exact(at[0], at[1]));
        }
        noSuch(x, "exact of place 0", x.exact(0, 0));
        for (int man : new int[] {-1, 4, Integer.MIN_VALUE}) {
            noSuch(x, "length", x.length(man));
            noSuch(x, "all", x.all(man, 0));
            noSuch(x, "worst", x.worst(man));
            noSuch(x, "signs", x.signs(man));
            noSuch(x, "bestSlip", x.bestSlip(man));
            noSuch(x, "bySlip", x.bySlip(man));
        }
        noSuch(x, "all(0, -1)", x.all(0, -1));
        noSuch(x, "all(0, 4)", x.all(0, 4));
    }

    private static void believes() {
        ReelChange x = Check.open(Houses.THREE);
        long[][] due = {{40, 30, 20}, {30, 30, 20}, {42, 35, 20}, {30, 30, 20}};
        for (int man = 0; man < 4; man++) {
            Check.row("believes " + man, new long[] {x.believes(man, 0), x.believes(man, 1), x.believes(man, 2)}, due[man]);
        }
        Check.due("trouble", x.trouble(), 0);
    }

    private static void startsAndChanges() {
        ReelChange x = Check.open(Houses.THREE);
        long[][] starts = {{40, 30, -2}, {32, 32, -2}, {47, 40, -2}, {31, 31, -2}};
        long[][] changes = {{50, 40, 40}, {42, 42, 40}, {57, 50, 40}, {41, 41, 40}};
        long[][] tails = {{10, 10, 0}, {18, 8, 0}, {3, 0, 0}, {19, 9, 0}};
        long[] lengths = {130, 124, 147, 122};
        for (int m = 0; m < 4; m++) {
            Check.row("starts " + m, new long[] {x.starts(m, 0), x.starts(m, 1), x.starts(m, 2)}, starts[m]);
            Check.row("changes " + m, new long[] {x.changes(m, 0), x.changes(m, 1), x.changes(m, 2)}, changes[m]);
            Check.row("tail " + m, new long[] {x.tail(m, 0), x.tail(m, 1), x.tail(m, 2)}, tails[m]);
            Check.row("begins " + m, new long[] {x.begins(m, 0), x.begins(m, 1), x.begins(m, 2)},
                    0, changes[m][0], changes[m][0] + changes[m][1]);
            Check.due("length " + m, x.length(m), lengths[m]);
        }
    }

    private static void goneBy() {
        ReelChange x = Check.open(Houses.GONE_BY);
        Check.row("starts", new long[] {x.starts(0, 0), x.starts(0, 1), x.starts(0, 2), x.starts(0, 3)}, 9, -2, 5, -2);
        Check.row("changes", new long[] {x.changes(0, 0), x.changes(0, 1), x.changes(0, 2), x.changes(0, 3)}, 29, 0, 25, 40);
        Check.row("lost", new long[] {x.lost(0, 0), x.lost(0, 1), x.lost(0, 2), x.lost(0, 3)}, 0, 10, 0, 20);
        Check.row("black", new long[] {x.black(0, 0), x.black(0, 1), x.black(0, 2), x.black(0, 3)}, 0, 0, 0, 0);
        Check.row("tail", new long[] {x.tail(0, 0), x.tail(0, 1), x.tail(0, 2), x.tail(0, 3)}, 1, 0, 15, 0);
        Check.row("begins", new long[] {x.begins(0, 0), x.begins(0, 1), x.begins(0, 2), x.begins(0, 3)}, 0, 29, 29, 54);
        Check.due("a reel gone by is believed all the same", x.believes(0, 1), 3);
        Check.due("length", x.length(0), 74);
        x.threads(1, 11);
        Check.row("with one frame left it is shown", new long[] {x.lost(0, 1), x.starts(0, 1), x.changes(0, 1), x.begins(0, 2)}, 9, 9, 10, 30);
        Check.row("behind it: from the motor's start to the change is 1", new long[] {x.lost(0, 2), x.black(0, 2)}, 1, 0);
    }

    private static void goneByAtTheEnd() {
        ReelChange x = Check.open("house apart 20 motor 0 leader 0 burns 30 trim 5 mend 1;reel a frames 40 first 5 whole 40"
                + ";reel b frames 20 first 3 whole 20;man m clean slip 0;shows a,b");
        Check.row("lost, changes, begins, tail, starts, length", new long[] {x.lost(0, 1), x.changes(0, 1), x.begins(0, 1), x.tail(0, 1), x.starts(0, 1), x.length(0)},
                20, 0, 25, 0, -2, 25);
        Check.due("gone by", x.all(0, 3), 1);
    }

    private static void black() {
        ReelChange x = Check.open(Houses.BLACK);
        Check.row("man 0", new long[] {x.starts(0, 0), x.changes(0, 0), x.black(0, 1), x.lost(0, 1), x.begins(0, 1), x.length(0)},
                15, 25, 4, 0, 29, 59);
        Check.row("man 1 starts at the last frame", new long[] {x.starts(1, 0), x.changes(1, 0), x.tail(1, 0), x.black(1, 1), x.begins(1, 1), x.length(1)},
                29, 30, 0, 13, 43, 73);
        x.threads(1, 2);
        Check.row("AHEAD 0", new long[] {x.black(0, 1), x.lost(0, 1), x.begins(0, 1)}, 0, 0, 25);
        x.threads(1, 1);
        Check.row("AHEAD 1", new long[] {x.black(0, 1), x.lost(0, 1), x.begins(0, 1), x.length(0)}, 0, 1, 25, 54);
        x.threads(0, 199);
        Check.row("the thread of place 0 moves nothing", new long[] {x.begins(0, 0), x.begins(0, 1), x.length(0)}, 0, 25, 54);
    }

    /** The dot is LOST: he starts the motor at the first frame that is shown. */
    private static void startsWhereTheReelBegins() {
        ReelChange x = Check.open("house apart 30 motor 0 leader 0 burns 30 trim 5 mend 1;reel a frames 100 first 0 whole 100"
                + ";man m clean slip 0;shows a,a,a");
        Check.row("starts", new long[] {x.starts(0, 0), x.starts(0, 1), x.changes(0, 1), x.lost(0, 1), x.lost(0, 2), x.begins(0, 2)},
                0, 30, 60, 30, 30, 60);
    }

    private static void sums() {
        ReelChange x = Check.open(Houses.GONE_BY);
        Check.row("all", new long[] {x.all(0, 0), x.all(0, 1), x.all(0, 2), x.all(0, 3)}, 30, 0, 16, 1);
        Check.due("worst", x.worst(0), 3);
        ReelChange y = Check.open(Houses.THREE);
        Check.due("the first of like ones is worst", y.worst(0), 1);
        Check.due("worst by the tail ahead", y.worst(1), 1);
        y.threads(2, 16);
        Check.due("worst by black", y.worst(0), 2);
        Check.row("all by black", new long[] {y.all(0, 0), y.all(0, 1), y.all(0, 2), y.all(0, 3)}, 0, 10, 20, 0);
    }

    private static void exact() {
        ReelChange x = Check.open(Houses.GONE_BY);
        Check.row("exact", new long[] {x.exact(0, 1), x.exact(0, 2), x.exact(0, 3)}, 20, -2, 20);
        Check.due("trouble", x.trouble(), 0);
        ReelChange y = Check.open(Houses.BLACK);
        Check.row("exact: 10 less 8; 1 less 8 is below 0", new long[] {y.exact(0, 1), y.exact(1, 1)}, 2, 0);
    }

    private static void signs() {
        ReelChange x = Check.open(Houses.THREE);
        Check.row("signs", new long[] {x.signs(0), x.signs(1), x.signs(2), x.signs(3), x.fits()}, 1, 1, 1, 1, 0);
        x.threads(2, 10);
        Check.row("with 4 more threaded, but man 2's reel two runs out", new long[] {x.signs(0), x.signs(2), x.fits()}, 3, 3, 15);
        x.threads(1, 5);
        Check.row("one is lost", new long[] {x.signs(0), x.fits()}, 2, 0);
        ReelChange z = Check.open(Houses.GONE_BY + ";seen 3 black 0 lost 20;seen 1 black 0 lost 10;seen 3 black 0 lost 0;seen 1 black 1 lost 10");
        Check.row("signs of what is lost", new long[] {z.signs(0), z.fits()}, 3, 0);
        ReelChange y = Check.open(Houses.GONE_BY);
        Check.row("without signs all men fit", new long[] {y.signs(0), y.fits()}, 0, 1);
    }

    private static void slips() {
        ReelChange x = Check.open(Houses.THREE);
        Check.row("bestSlip, bySlip", new long[] {x.bestSlip(0), x.bySlip(0), x.bestSlip(2), x.bySlip(2)}, 10, 0, 5, 3);
        ReelChange y = Check.open(Houses.BLACK);
        Check.row("BLACK 4 and TAIL none by slip 5; one fewer of each by 5 and 1 more: 5 is the first",
                new long[] {y.bestSlip(0), y.bySlip(0), y.bestSlip(1), y.bySlip(1)}, 5, 4, 5, 4);
        ReelChange none = Check.open(Houses.BLACK.replace("first 15", "first 20"));
        Check.row("no slip is best", new long[] {none.bestSlip(0), none.bySlip(0)}, 0, 4);
        ReelChange most = Check.open(Houses.BLACK.replace("frames 30 first 15 whole 30", "frames 90 first 15 whole 90"));
        Check.row("the most is best", new long[] {most.bestSlip(0), most.bySlip(0)}, 40, 29);
    }
}

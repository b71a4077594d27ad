/** Promises 25 to 30: arcs. */
public final class ArcsTest {
    /** Four reels of 20, changed at 15, each with a motor 10 ticks ahead: an arc needs 15, 25, 25, 30. */
    private static final String FOUR = "house apart 10 motor 5 leader 5 burns 45 trim 5 mend 1"
            + ";reel a frames 20 first 5 whole 20;man m clean slip 0;shows a,a,a,a";

    public static void main(String[] args) {
        refused();
        burning();
        dying();
        goneBy();
        trimming();
        never();
        Check.end("ArcsTest");
    }

    private static void noSuch(ReelChange x, String call, int got) {
        Check.due(call, got, -1);
        Check.due(call + " trouble", x.trouble(), 1);
        x.fits();
    }

    private static void refused() {
        ReelChange x = Check.open(FOUR);
        int[][] wrong = {{-1, 0}, {1, 0}, {0, -1}, {0, 4}};
        for (int[] at : wrong) {
            noSuch(x, "needs", x.needs(at[0], at[1]));
            noSuch(x, "dies", x.dies(at[0], at[1]));
            noSuch(x, "free", x.free(at[0], at[1]));
            noSuch(x, "arc", x.arc(at[0], at[1]));
        }
        noSuch(x, "firstDies", x.firstDies(1));
        noSuch(x, "never", x.never(-1));
        ReelChange none = new ReelChange();
        noSuch(none, "never without a house", none.never(0));
        noSuch(none, "needs without a house", none.needs(0, 0));
    }

    private static void burning() {
        ReelChange x = Check.open(FOUR);
        Check.row("needs", new long[] {x.needs(0, 0), x.needs(0, 1), x.needs(0, 2), x.needs(0, 3)}, 15, 25, 25, 30);
        Check.row("free", new long[] {x.free(0, 0), x.free(0, 1), x.free(0, 2), x.free(0, 3)}, -2, -2, 5, 5);
        Check.row("arc", new long[] {x.arc(0, 0), x.arc(0, 1), x.arc(0, 2), x.arc(0, 3)}, 30, 20, 5, 45);
        Check.row("dies", new long[] {x.dies(0, 0), x.dies(0, 1), x.dies(0, 2), x.dies(0, 3)}, 0, 0, 0, 1);
        Check.due("firstDies", x.firstDies(0), 3);
        Check.due("trouble", x.trouble(), 0);
        ReelChange y = Check.open(Houses.THREE);
        Check.row("none dies", new long[] {y.firstDies(0), y.arc(0, 0), y.arc(0, 1), y.arc(0, 2), y.free(0, 2)}, -2, 150, 150, 100, 30);
        ReelChange lost = Check.open(FOUR.replace("leader 5", "leader 2"));
        Check.row("3 are lost of each but the first: left at 15, 27, 39, 56; motors at 5, 17, 29", new long[] {lost.needs(0, 0), lost.needs(0, 1),
            lost.needs(0, 2), lost.needs(0, 3), lost.free(0, 2), lost.free(0, 3)}, 15, 22, 22, 27, 2, 2);
        ReelChange z = Check.open(Houses.BLACK);
        Check.row("black ticks burn, too", new long[] {z.needs(0, 0), z.needs(0, 1)}, 25, 44);
    }

    private static void dying() {
        ReelChange x = Check.open(FOUR.replace("burns 45", "burns 55"));
        Check.row("with just as much as it needs it doesn't", new long[] {x.firstDies(0), x.arc(0, 3), x.arc(0, 2)}, -2, 0, 15);
        ReelChange y = Check.open(FOUR.replace("burns 45", "burns 24"));
        Check.row("behind it is as good as new", new long[] {y.firstDies(0), y.dies(0, 1), y.arc(0, 1), y.dies(0, 2), y.arc(0, 2), y.dies(0, 3), y.never(0)},
                1, 1, 24, 1, 24, 1, -2);
        ReelChange z = Check.open(FOUR.replace("burns 45", "burns 14"));
        Check.row("at the very first", new long[] {z.firstDies(0), z.dies(0, 0), z.arc(0, 0)}, 0, 1, 14);
    }

    private static void goneBy() {
        ReelChange x = Check.open(Houses.GONE_BY);
        Check.row("needs", new long[] {x.needs(0, 0), x.needs(0, 1), x.needs(0, 2), x.needs(0, 3)}, 29, 20, 25, 40);
        Check.row("free", new long[] {x.free(0, 2), x.free(0, 3)}, 0, 5);
        Check.row("arc", new long[] {x.arc(0, 0), x.arc(0, 1), x.arc(0, 2), x.arc(0, 3)}, 1, 10, 30, 30);
        Check.row("firstDies, never", new long[] {x.firstDies(0), x.never(0)}, 2, -2);
    }

    private static void trimming() {
        ReelChange x = Check.open(FOUR);
        Check.due("trim", x.trim(3, true), true);
        Check.row("it was free 5, so long as trim tells", new long[] {x.firstDies(0), x.arc(0, 3), x.dies(0, 3)}, -2, 15, 0);
        ReelChange y = Check.open(FOUR.replace("trim 5", "trim 6"));
        y.trim(3, true);
        y.trim(1, true);
        Check.row("it wasn't: nothing is", new long[] {y.firstDies(0), y.arc(0, 1), y.never(0)}, 3, 20, -2);
    }

    private static void never() {
        ReelChange x = Check.open(FOUR);
        Check.due("never", x.never(0), 8);
        x.trim(3, true);
        Check.due("whatever is trimmed now", x.never(0), 8);
        ReelChange y = Check.open(FOUR.replace("burns 45", "burns 55"));
        Check.due("none is needed", y.never(0), 0);
        ReelChange z = Check.open(FOUR.replace("a,a,a,a", "a,a,a,a,a,a").replace("burns 45", "burns 50"));
        Check.row("projector 0 needs 15, 25, 25; projector 1 needs 25, 25, 30", new long[] {z.needs(0, 4), z.needs(0, 5), z.never(0)}, 25, 30, 36);
        ReelChange last = Check.open(FOUR.replace("a,a,a,a", "a,a,a,a,a,a").replace("burns 45", "burns 30"));
        Check.due("all but the first two", last.never(0), 60);
    }
}

/** Promises 40 to 45: two houses on one print, orders. */
public final class TwoHousesTest {
    private static final String SIX = "house apart 1 motor 0 leader 1 burns 1 trim 0 mend 0;reel a frames 9 first 8 whole 9"
            + ";reel b frames 9 first 8 whole 9;reel c frames 9 first 8 whole 9;reel d frames 9 first 8 whole 9;man m clean slip 0;shows ";

    public static void main(String[] args) {
        refused();
        apart();
        blackIsNoReel();
        queue();
        goneBy();
        well();
        orders();
        Check.end("TwoHousesTest");
    }

    private static void refused(ReelChange x, String call, long got, int trouble) {
        Check.due(call, got, -1);
        Check.due(call + " trouble", x.trouble(), trouble);
        x.fits();
    }

    private static void refused() {
        ReelChange none = new ReelChange();
        refused(none, "apart without a house", none.apart(0, 1), 1);
        refused(none, "waits without a house", none.waits(0, 1, 0), 1);
        refused(none, "boys without a house", none.boys(0), 1);
        refused(none, "well without a house", none.well(false), 1);
        refused(none, "wrong without a house", none.wrong(), 1);
        refused(none, "exchanges without a house", none.exchanges(), 1);
        ReelChange no = Check.open(Houses.GONE_BY);
        refused(no, "apart: 1 goes ahead of 6", no.apart(1, 9), 1);
        refused(no, "apart: 6 goes ahead of 2", no.apart(0, 9), 6);
        refused(no, "waits: 1 goes ahead of 6", no.waits(-1, 9, -1), 1);
        refused(no, "waits: 6 goes ahead of 2", no.waits(0, 9, -1), 6);
        refused(no, "boys: 1 goes ahead of 6", no.boys(1), 1);
        refused(no, "boys", no.boys(0), 6);
        refused(no, "well", no.well(true), 6);
        ReelChange x = Check.open(Houses.THREE);
        refused(x, "apart(4, 1)", x.apart(4, 1), 1);
        refused(x, "apart(0, 5)", x.apart(0, 5), 2);
        refused(x, "apart(0, -1)", x.apart(0, -1), 2);
        refused(x, "waits(0, 5, 0)", x.waits(0, 5, 0), 2);
        refused(x, "waits(0, 1, -1)", x.waits(0, 1, -1), 2);
        refused(x, "waits(0, 1, 10000)", x.waits(0, 1, 10000), 2);
        refused(x, "waits(4, 1, 0)", x.waits(4, 1, 0), 1);
        refused(x, "boys(4)", x.boys(4), 1);
    }

    /** By man 0 the reels are left at 50, 90, 130; with a ride of 20 they are there at 70, 110, 150. */
    private static void apart() {
        ReelChange x = Check.open(Houses.THREE);
        Check.row("apart", new long[] {x.apart(0, 1), x.apart(0, 0), x.apart(0, 4), x.boys(0)}, 70, 70, 70, 1);
        Check.row("waits", new long[] {x.waits(0, 1, 0), x.waits(0, 0, 60), x.waits(0, 1, 69), x.waits(0, 1, 70), x.waits(0, 1, 9999)}, 70, 10, 1, 0, 0);
        Check.due("trouble", x.trouble(), 0);
    }

    /** Left at 25 and 59, there at 30 and 64; the second house shows the second reel 25 behind its beginning. */
    private static void blackIsNoReel() {
        ReelChange x = Check.open(Houses.BLACK);
        Check.row("apart", new long[] {x.apart(0, 1), x.apart(0, 2), x.waits(0, 1, 38), x.waits(0, 1, 39), x.boys(0)}, 39, 39, 1, 0, 1);
    }

    /** Reels of 9, a ride of 20: one boy is there at 29, 69, 109, 149, 189, 229; two at 29, 38, 69, 78, 109, 118. */
    private static void queue() {
        ReelChange x = Check.open(SIX + "a,b,c,d,a,b;boys 2 ride 20 falls 0");
        Check.row("by one boy", new long[] {x.apart(0, 1), x.waits(0, 1, 0), x.waits(0, 1, 100)}, 229 - 45, 229 - 45, 84);
        Check.row("by two", new long[] {x.apart(0, 0), x.apart(0, 2), x.waits(0, 0, 0), x.waits(0, 2, 69)}, 73, 73, 73, 4);
        Check.row("by three at 29, 38, 47, 69, 78, 87; by four at 29, 38, 47, 56, 69, 78", new long[] {x.apart(0, 3), x.apart(0, 4), x.boys(0)}, 42, 33, 4);
        ReelChange y = Check.open(SIX + "a,b,c,d,a,b;boys 1 ride 13 falls 0");
        Check.row("three carry each reel as soon as four", new long[] {y.apart(0, 2), y.apart(0, 3), y.apart(0, 4), y.boys(0)}, 38, 22, 22, 3);
    }

    private static void goneBy() {
        ReelChange x = Check.open(Houses.GONE_BY + ";boys 1 ride 10 falls 1");
        Check.row("left at 29, 29, 54, 74: there at 39, 59, 79, 99; shown 29, 0, 25", new long[] {x.apart(0, 1), x.apart(0, 2), x.boys(0),
            x.waits(0, 1, 0), x.waits(0, 1, 39)}, 50, 39, 2, 50, 11);
    }

    private static void well() {
        ReelChange x = Check.open(Houses.THREE);
        Check.row("three ways of nine tenths", new long[] {x.well(false), x.well(true), x.trouble()}, 729, 1000, 0);
        ReelChange y = Check.open(Houses.BLACK);
        Check.row("two of a half", new long[] {y.well(false), y.well(true)}, 1, 4);
        ReelChange z = Check.open(SIX + "a,b,c,d,a,b,c,d;boys 1 ride 1 falls 3");
        Check.row("eight of 97 in a hundred", new long[] {z.well(false), z.well(true)}, 7837433594376961L, 10000000000000000L);
        ReelChange sure = Check.open(SIX + "a,b;boys 1 ride 1 falls 0");
        Check.row("none falls", new long[] {sure.well(false), sure.well(true)}, 1, 1);
    }

    private static void orders() {
        Object[][] due = {
            {"a,b,c,d", 0, 0}, {"b,a", 2, 1}, {"d,c,b,a", 14, 2}, {"b,c,d,a", 8, 3}, {"a,c,b,d", 4, 1},
            {"a,a", 2, 0}, {"a,a,b,b", 10, 0}, {"b,a,b,a", 14, 1}, {"c,a,b,c,a,b", 62, 2}, {"b,a,a,b", 14, 1},
            {"b,c,a,c,a,b", 60, 3}, {"d,c,b,a,a,b,c,d", 254, 4}
        };
        for (Object[] row : due) {
            ReelChange x = Check.open(SIX + row[0]);
            Check.due("wrong of " + row[0], x.wrong(), (Integer) row[1]);
            Check.due("exchanges of " + row[0], x.exchanges(), (Integer) row[2]);
            Check.due("trouble", x.trouble(), 0);
        }
    }
}

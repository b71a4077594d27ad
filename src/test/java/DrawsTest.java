/** Promises 46 and 47: nights by draws. From 0 the draws are 74, 5624, 28652; from 1 they are 149, 11249, 57305; 65536 stays. */
public final class DrawsTest {
    public static void main(String[] args) {
        refused();
        dark();
        lastReel();
        bestMan();
        Check.end("DrawsTest");
    }

    private static void refused(ReelChange x, String call, long got, int trouble) {
        Check.due(call, got, -1);
        Check.due(call + " trouble", x.trouble(), trouble);
        x.fits();
    }

    private static void refused() {
        ReelChange none = new ReelChange();
        refused(none, "dark without a house", none.dark(0, 0), 1);
        refused(none, "bestMan without a house", none.bestMan(-1, 0), 1);
        ReelChange x = Check.open(Houses.THREE);
        refused(x, "dark(4, 0)", x.dark(4, 0), 1);
        refused(x, "dark(-1, -1)", x.dark(-1, -1), 1);
        refused(x, "dark(0, -1)", x.dark(0, -1), 2);
        refused(x, "dark(0, 65537)", x.dark(0, 65537), 2);
        refused(x, "bestMan(-1, 1)", x.bestMan(-1, 1), 2);
        refused(x, "bestMan(65537, 1)", x.bestMan(65537, 1), 2);
        refused(x, "bestMan(0, 0)", x.bestMan(0, 0), 2);
        refused(x, "bestMan(0, 21)", x.bestMan(0, 21), 2);
    }

    private static void dark() {
        ReelChange x = Check.open(Houses.THREE);
        Check.row("the weak place is the third draw: 52, 5, 36 of a hundred, its chance 50",
                new long[] {x.dark(0, 0), x.dark(0, 1), x.dark(0, 65536), x.trouble()}, 0, 25, 25, 0);
        x.mend(0);
        Check.row("mended", new long[] {x.dark(0, 1), x.dark(0, 65536)}, 0, 0);
        ReelChange edge = Check.open(Houses.THREE.replace("snaps 50", "snaps 52"));
        Check.due("52 isn't below 52", edge.dark(0, 0), 0);
        ReelChange below = Check.open(Houses.THREE.replace("snaps 50", "snaps 53"));
        Check.due("52 is below 53", below.dark(0, 0), 25);
        ReelChange y = Check.open(Houses.BLACK);
        Check.row("slip 0 by all draws; 74 mod 41 is 33, beyond the last frame; 374 mod 41 is 5",
                new long[] {y.dark(0, 0), y.dark(1, 0), y.dark(1, 4)}, 4, 13, 4);
    }

    /** On the last reel no slip is drawn, its weak places are; a reel gone by draws nothing. */
    private static void lastReel() {
        ReelChange x = Check.open(Houses.BLACK + ";weak a 3 snaps 53");
        Check.row("draws 74 for the slip, 24 snaps, 52 snaps", new long[] {x.dark(0, 0)}, 4 + 7 + 7);
        ReelChange y = Check.open(Houses.BLACK + ";weak a 3 snaps 52;weak a 2 snaps 91");
        Check.row("74; 24 snaps, 52 snaps; 90 doesn't, 41 does: numbers, not frames",
                new long[] {y.dark(0, 0)}, 4 + 7 + 7 + 7);
        ReelChange gone = Check.open(Houses.GONE_BY + ";weak b 1 snaps 99;weak a 1 snaps 53");
        Check.row("74 slip; b none; 24 slip, 52 snaps; 90 doesn't", new long[] {gone.dark(0, 0)}, 1);
    }

    /** Man 0: 4 and 5 each night; man 1 from 4: slips 5, 39, 13: 4, 13, 12. */
    private static void bestMan() {
        ReelChange x = Check.open(Houses.BLACK);
        Check.row("bestMan", new long[] {x.bestMan(0, 1), x.bestMan(4, 1), x.bestMan(4, 2), x.bestMan(4, 3), x.trouble()}, 0, 1, 1, 0, 0);
        ReelChange snaps = Check.open(Houses.BLACK.replace("reel a frames 30 first 15 whole 30", "reel a frames 30 first 20 whole 30")
                .replace("shows a,a", "weak a 1 snaps 50;shows a,a"));
        Check.row("4, and 7 for each draw below 50 behind the slip's: 24 52; 41 9; 52 90; 9 31",
                new long[] {snaps.dark(0, 0), snaps.dark(0, 28652), snaps.dark(0, 74), snaps.dark(0, 51790)}, 11, 18, 4, 18);
        ReelChange eager = Check.open("house apart 10 motor 4 leader 6 burns 60 trim 0 mend 500;reel a frames 30 first 20 whole 30"
                + ";reel b frames 30 first 20 whole 30;weak b 1 snaps 53;man m clean slip 0;man n clean slip 1;shows a,a,b");
        Check.row("the first man draws no less than the second, but nothing is lost by slip 0", new long[] {eager.dark(0, 0), eager.dark(1, 0),
            eager.bestMan(0, 1), eager.bestMan(0, 20)}, 500, 500, 0, 0);
        ReelChange like = Check.open(Houses.BLACK.replace("n clean slip 40", "n clean slip 0"));
        Check.row("the first of like men", new long[] {like.bestMan(9, 1), like.bestMan(65536, 20)}, 0, 0);
    }
}

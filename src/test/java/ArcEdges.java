import java.util.function.IntBinaryOperator;
import java.util.function.IntUnaryOperator;

/** Edges of promises 25 to 30: arcs and TRIMS. */
final class ArcEdges {
    private ArcEdges() {
    }

    static void all() {
        refused();
        needs();
        dies();
        asGoodAsNew();
        free();
        trimmed();
        firstReels();
        projectors();
        never();
        neverOfLikeOnes();
    }

    /** Reels of 20 frames, changed at 15, the motor of the next started 10 ticks ahead: an ARC needs 15, 25, 25 .. and 30 for the last. */
    private static String house(int burns, int trim, String shows) {
        return "house apart 10 motor 5 leader 5 burns " + burns + " trim " + trim + " mend 1;reel a frames 20 first 5 whole 20;man m clean slip 0;shows " + shows;
    }

    private static void refused() {
        ReelChange x = Check.open(house(45, 5, "a,a,a,a"));
        Object[][] byPlace = {
            {25, "How many ticks an ARC needs for a place. NONE: 1.", (IntBinaryOperator) x::needs},
            {26, "Whether it DIES there: 1, 0. NONE: 1.", (IntBinaryOperator) x::dies},
            {28, "How long its projector was free ahead of a place (the first two: -2). NONE: 1.", (IntBinaryOperator) x::free},
            {29, "How many ticks an ARC has left behind a place. NONE: 1.", (IntBinaryOperator) x::arc}
        };
        for (Object[] row : byPlace) {
            Check.holds((Integer) row[0], (String) row[1]);
            IntBinaryOperator call = (IntBinaryOperator) row[2];
            for (int[] at : new int[][] {{-1, 0}, {1, 0}, {0, -1}, {0, 4}, {1, 4}, {4, 8}, {Integer.MIN_VALUE, Integer.MAX_VALUE}}) {
                Check.refused(x, 1, "(" + at[0] + ", " + at[1] + ")", () -> call.applyAsInt(at[0], at[1]));
            }
            int last = call.applyAsInt(0, 3);
            Check.told(x, "(0, 3)", () -> call.applyAsInt(0, 3), last);
        }
        Object[][] byMan = {
            {27, "The first place at which one DIES; -2. NONE: 1.", (IntUnaryOperator) x::firstDies, 3},
            {30, "NEVER, as bits; -2 it can't be. NONE: 1.", (IntUnaryOperator) x::never, 8}
        };
        for (Object[] row : byMan) {
            Check.holds((Integer) row[0], (String) row[1]);
            IntUnaryOperator call = (IntUnaryOperator) row[2];
            for (int man : new int[] {-1, 1, 4, Integer.MIN_VALUE, Integer.MAX_VALUE}) {
                Check.refused(x, 1, "man " + man, () -> call.applyAsInt(man));
            }
            Check.told(x, "man 0", () -> call.applyAsInt(0), (Integer) row[3]);
        }
        ReelChange none = new ReelChange();
        Check.refused(none, 1, "needs without a house", () -> none.needs(0, 0));
        Check.refused(none, 1, "dies without a house", () -> none.dies(0, 0));
        Check.refused(none, 1, "free without a house", () -> none.free(0, 0));
        Check.refused(none, 1, "arc without a house", () -> none.arc(0, 0));
        Check.refused(none, 1, "firstDies without a house", () -> none.firstDies(0));
        Check.refused(none, 1, "never without a house", () -> none.never(0));
    }

    private static void needs() {
        Check.holds(25, "An ARC burns while its projector runs: from the start of its motor (the first reel: from its first frame) to the change away from it, or the end.");
        ReelChange x = Check.open(house(45, 5, "a,a,a,a"));
        Check.row("needs", new long[] {x.needs(0, 0), x.needs(0, 1), x.needs(0, 2), x.needs(0, 3)}, 15, 25, 25, 30);
        x.threads(0, 199);
        Check.due("the first from its first frame", x.needs(0, 0), 15);
        x.threads(2, 7);
        Check.row("BLACK ticks burn, too", new long[] {x.black(0, 2), x.needs(0, 1), x.needs(0, 2), x.needs(0, 3)}, 2, 25, 27, 30);
        x.threads(2, 4);
        Check.row("LOST frames aren't shown, so it needs as many fewer; the next one's motor starts as long ahead of the change", new long[] {x.lost(0, 2), x.needs(0, 2),
            x.needs(0, 3), x.free(0, 3)}, 1, 24, 30, 4);
        ReelChange gone = Check.open("house apart 10 motor 0 leader 0 burns 99 trim 0 mend 0;reel a frames 20 first 5 whole 20;reel b frames 10 first 0 whole 20"
                + ";man m clean slip 0;shows a,b,a,b");
        Check.row("a reel gone by burns till it is changed; the next from then", new long[] {gone.needs(0, 0), gone.needs(0, 1), gone.needs(0, 2), gone.needs(0, 3)},
                15, 10, 15, 10);
    }

    /** Projector 1 needs 25, then 30. */
    private static void dies() {
        Check.holds(26, "If it has fewer than it needs for a reel it DIES on that reel");
        int[][] due = {{54, 1, 3, 54}, {55, 0, -2, 0}, {56, 0, -2, 1}};
        for (int[] row : due) {
            ReelChange x = Check.open(house(row[0], 5, "a,a,a,a"));
            Check.row("burns " + row[0], new long[] {x.dies(0, 0), x.dies(0, 1), x.dies(0, 2), x.dies(0, 3), x.firstDies(0), x.arc(0, 3)}, 0, 0, 0, row[1], row[2], row[3]);
        }
        int[][] first = {{14, 1, 0}, {15, 0, 1}, {16, 0, 1}};
        Check.holds(27, "The first place at which one DIES; -2.");
        for (int[] row : first) {
            ReelChange x = Check.open(house(row[0], 5, "a,a,a"));
            Check.row("burns " + row[0], new long[] {x.dies(0, 0), x.firstDies(0)}, row[1], row[2]);
        }
        ReelChange eight = Check.open(house(104, 999, "a,a,a,a,a,a,a,a"));
        Check.row("the last of eight: 25, 25, 25 and 30 of 104", new long[] {eight.firstDies(0), eight.dies(0, 7), eight.arc(0, 7), eight.arc(0, 5), eight.arc(0, 6)}, 7, 1, 104, 29, 14);
        ReelChange enough = Check.open(house(106, 999, "a,a,a,a,a,a,a,a"));
        Check.row("of 106", new long[] {enough.firstDies(0), enough.dies(0, 7), enough.arc(0, 7)}, -2, 0, 1);
        int[][] second = {{24, 1}, {25, 2}, {39, 2}, {40, -2}};
        for (int[] row : second) {
            ReelChange x = Check.open("house apart 10 motor 5 leader 5 burns " + row[0] + " trim 5 mend 1;reel a frames 20 first 5 whole 20;reel b frames 15 first 5 whole 20"
                    + ";man m clean slip 0;shows a,a,b");
            Check.due("needs 15, 25 and 25: burns " + row[0], x.firstDies(0), row[1]);
        }
    }

    private static void asGoodAsNew() {
        Check.holds(29, "It has burns ticks at first, or when it was TRIMMED. If it has fewer than it needs for a reel it DIES on that reel (it is as good as new behind it).");
        ReelChange x = Check.open(house(24, 99, "a,a,a,a,a"));
        Check.row("15 of 24, 25 of 24, 25 of 9, 25 of 24, 30 of 24", new long[] {x.arc(0, 0), x.arc(0, 1), x.arc(0, 2), x.arc(0, 3), x.arc(0, 4), x.firstDies(0)},
                9, 24, 24, 24, 24, 1);
        ReelChange behind = Check.open(house(40, 99, "a,a,a,a,a,a"));
        Check.row("15 25 of 40: none left; then 25 of 0 dies; projector 1: 25, 25 of 15 dies, 30 of 40", new long[] {behind.arc(0, 0), behind.arc(0, 2), behind.arc(0, 4),
            behind.arc(0, 1), behind.arc(0, 3), behind.arc(0, 5), behind.dies(0, 2), behind.dies(0, 4), behind.dies(0, 3), behind.dies(0, 5)},
                25, 0, 40, 15, 40, 10, 0, 1, 1, 0);
    }

    private static void free() {
        Check.holds(28, "from the change away from it, or the beginning (the first reels of both: always), to the start of its motor");
        ReelChange x = Check.open(house(45, 5, "a,a,a,a"));
        Check.row("free", new long[] {x.free(0, 0), x.free(0, 1), x.free(0, 2), x.free(0, 3), x.trouble()}, -2, -2, 5, 5, 0);
        x.threads(1, 9);
        Check.row("4 BLACK of the other's", new long[] {x.free(0, 2), x.free(0, 3)}, 9, 5);
        ReelChange never = Check.open("house apart 20 motor 0 leader 20 burns 45 trim 0 mend 0;reel a frames 30 first 0 whole 30;man m clean slip 0;shows a,a,a");
        Check.row("its motor starts at the change away from it", new long[] {never.free(0, 2), never.starts(0, 1), never.begins(0, 1)}, 0, 0, 20);
    }

    /** The projector of place 3 is free for 5 ticks; without a trim it dies there. */
    private static void trimmed() {
        Check.holds(29, "ahead of such a reel its projector is trimmed, if it was free so long as trim tells");
        int[][] due = {{4, 0, 15}, {5, 0, 15}, {6, 1, 45}, {0, 0, 15}, {999, 1, 45}};
        for (int[] row : due) {
            ReelChange x = Check.open(house(45, row[0], "a,a,a,a"));
            x.trim(3, true);
            Check.row("trim " + row[0], new long[] {x.dies(0, 3), x.arc(0, 3), x.arc(0, 1), x.arc(0, 2)}, row[1], row[2], 20, 5);
            x.trim(3, false);
            Check.row("no more", new long[] {x.dies(0, 3), x.arc(0, 3)}, 1, 45);
        }
        ReelChange zero = Check.open("house apart 20 motor 0 leader 20 burns 49 trim 0 mend 0;reel a frames 30 first 0 whole 30;man m clean slip 0;shows a,a,a");
        Check.due("20 and 50", zero.dies(0, 2), 1);
        zero.trim(2, true);
        Check.row("free for 0 is as long as 0, but 50 is more than 49", new long[] {zero.free(0, 2), zero.needs(0, 2), zero.dies(0, 2)}, 0, 50, 1);
        ReelChange just = Check.open("house apart 20 motor 0 leader 20 burns 50 trim 0 mend 0;reel a frames 30 first 0 whole 30;man m clean slip 0;shows a,a,a");
        just.trim(2, true);
        Check.row("and 50 isn't more than 50", new long[] {just.dies(0, 2), just.arc(0, 2)}, 0, 0);
    }

    private static void firstReels() {
        Check.holds(29, "(the first reels of both: always)");
        ReelChange x = Check.open(house(45, 999, "a,a,a,a"));
        x.trim(0, true);
        x.trim(1, true);
        Check.row("new arcs are as new", new long[] {x.arc(0, 0), x.arc(0, 1), x.arc(0, 2), x.dies(0, 3)}, 30, 20, 5, 1);
    }

    /** A trim ahead of one place changes what its own projector has, at its places alone. */
    private static void projectors() {
        Check.holds(29, "the reels as they are shown, each on the other projector than the one ahead (the first on projector 0).");
        ReelChange x = Check.open(house(200, 5, "a,a,a,a,a,a"));
        long[] plain = {185, 175, 160, 150, 135, 120};
        Check.row("15, 25, 25 of the one, 25, 25, 30 of the other", new long[] {x.arc(0, 0), x.arc(0, 1), x.arc(0, 2), x.arc(0, 3), x.arc(0, 4), x.arc(0, 5)}, plain);
        x.trim(2, true);
        Check.row("trimmed ahead of 2", new long[] {x.arc(0, 0), x.arc(0, 1), x.arc(0, 2), x.arc(0, 3), x.arc(0, 4), x.arc(0, 5)}, 185, 175, 175, 150, 150, 120);
        Check.holds(29, "TRIMS are told for reels: ahead of such a reel its projector is trimmed");
        x.trim(2, false);
        x.trim(5, true);
        Check.row("trimmed ahead of 5", new long[] {x.arc(0, 0), x.arc(0, 1), x.arc(0, 2), x.arc(0, 3), x.arc(0, 4), x.arc(0, 5)}, 185, 175, 160, 150, 135, 170);
    }

    private static void never() {
        Check.holds(30, "NEVER: the fewest TRIMS (sets of reels, of those shown) by which none DIES; of like ones the least bits.");
        int[][] due = {{55, 0}, {54, 8}, {40, 8}, {39, 12}, {30, 12}, {29, -2}, {1, -2}, {9999, 0}};
        for (int[] row : due) {
            ReelChange x = Check.open(house(row[0], 5, "a,a,a,a"));
            Check.row("burns " + row[0], new long[] {x.never(0), x.trouble()}, row[1], 0);
            x.trim(2, true);
            x.trim(0, true);
            Check.due("whatever is trimmed now", x.never(0), row[1]);
            Check.due("no TRIMS are told by it", x.trim(3, false), false);
        }
        ReelChange close = Check.open(house(54, 6, "a,a,a,a"));
        Check.due("it isn't free for so long", close.never(0), -2);
        ReelChange eight = Check.open(house(30, 5, "a,a,a,a,a,a,a,a"));
        Check.due("all but the first two of eight", eight.never(0), 252);
        ReelChange two = Check.open(house(30, 5, "a,a"));
        Check.row("two reels", new long[] {two.needs(0, 1), two.never(0)}, 30, 0);
        ReelChange tooMuch = Check.open(house(29, 5, "a,a"));
        Check.row("to trim new arcs is no help", new long[] {tooMuch.never(0), tooMuch.firstDies(0)}, -2, 1);
    }

    /** Projector 0 needs 15, 25, 25, 25; projector 1 needs 25, 25, 25, 30. */
    private static void neverOfLikeOnes() {
        Check.holds(30, "of like ones the least bits");
        // 75: at 2, 4 or 6 for projector 0, at 5 alone for the other; 80: at 3, too; 50: at 4, and at 3 or 5 with 7
        int[][] due = {{75, 4 + 32}, {79, 4 + 32}, {80, 4 + 8}, {89, 4 + 8}, {90, 8}, {104, 8}, {105, 0}, {50, 16 + 8 + 128}};
        for (int[] row : due) {
            ReelChange x = Check.open(house(row[0], 5, "a,a,a,a,a,a,a,a"));
            Check.due("burns " + row[0], x.never(0), row[1]);
        }
    }
}

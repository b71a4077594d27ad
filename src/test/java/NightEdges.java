import java.util.function.IntBinaryOperator;
import java.util.function.IntUnaryOperator;

/** Edges of promises 10 to 24: a night by a man. */
final class NightEdges {
    private NightEdges() {
    }

    static void all() {
        refused();
        believes();
        lastFrame();
        firstOneShown();
        runsOut();
        lastReel();
        ahead();
        goneBy();
        behindGoneBy();
        goneByAtTheEnd();
        firstPlace();
        tails();
        length();
        sums();
        worst();
        exact();
        signs();
        fits();
        bestSlip();
        bySlip();
    }

    private static String house(int apart, int motor, int leader) {
        return "house apart " + apart + " motor " + motor + " leader " + leader + " burns 9999 trim 0 mend 0";
    }

    private static String reel(String name, int frames, int first) {
        return ";reel " + name + " frames " + frames + " first " + first + " whole 2000";
    }

    private static String man(int slip) {
        return ";man m clean slip " + slip;
    }

    private static void refused() {
        ReelChange x = Check.open(house(10, 0, 0) + reel("a", 50, 20) + ";man m clean slip 0;man n late slip 9;shows a,a,a");
        Object[][] byPlace = {
            {10, "What he BELIEVES at a place. NONE: 1.", (IntBinaryOperator) x::believes},
            {11, "The frame at which he starts the other motor; -2 (the last place, a reel gone by). NONE: 1.", (IntBinaryOperator) x::starts},
            {12, "The frame behind which he CHANGES (frames, if it runs out; the last place too; 0 of a reel gone by). NONE: 1.", (IntBinaryOperator) x::changes},
            {13, "How many frames are LOST at its head. NONE: 1.", (IntBinaryOperator) x::lost},
            {14, "How many ticks are BLACK ahead of it. NONE: 1.", (IntBinaryOperator) x::black},
            {15, "`int tail(int man, int place)`: TAIL. NONE: 1.", (IntBinaryOperator) x::tail},
            {16, "The tick at which it begins to be shown (a reel gone by: the tick of its change). NONE: 1.", (IntBinaryOperator) x::begins},
            {18, "All 0 LOST, 1 BLACK, 2 TAILS, 3 reels gone by. NONE: 1.", (IntBinaryOperator) x::all},
            {20, "NONE: 1 (place 0, too).", (IntBinaryOperator) x::exact}
        };
        for (Object[] row : byPlace) {
            Check.holds((Integer) row[0], (String) row[1]);
            noSuch(x, (IntBinaryOperator) row[2], (Integer) row[0] == 18 ? 4 : 3);
        }
        Check.refused(x, 1, "exact(0, 0)", () -> x.exact(0, 0));
        Check.refused(x, 1, "exact(1, 0)", () -> x.exact(1, 0));
        Object[][] byMan = {
            {17, "`int length(int man)`: All ticks. NONE: 1.", (IntUnaryOperator) x::length},
            {19, "TAIL of the one ahead, the first such. NONE: 1.", (IntUnaryOperator) x::worst},
            {21, "SIGNS that are so by a man, as bits. NONE: 1.", (IntUnaryOperator) x::signs},
            {23, "`int bestSlip(int man)`: BEST SLIP. NONE: 1.", (IntUnaryOperator) x::bestSlip},
            {24, "LOST, BLACK and TAILS together by it. NONE: 1.", (IntUnaryOperator) x::bySlip}
        };
        ReelChange none = new ReelChange();
        for (Object[] row : byMan) {
            Check.holds((Integer) row[0], (String) row[1]);
            IntUnaryOperator call = (IntUnaryOperator) row[2];
            for (int man : new int[] {-1, 2, 4, Integer.MIN_VALUE, Integer.MAX_VALUE}) {
                Check.refused(x, 1, "man " + man, () -> call.applyAsInt(man));
            }
            for (int man = 0; man < 2; man++) {
                int who = man;
                int answer = call.applyAsInt(man);
                Check.due("man " + man + " is told", answer >= 0, true);
                Check.told(x, "man " + man, () -> call.applyAsInt(who), answer);
            }
        }
        Check.refused(none, 1, "length without a house", () -> none.length(0));
        Check.refused(none, 1, "begins without a house", () -> none.begins(0, 0));
        Check.refused(none, 1, "all without a house", () -> none.all(0, 0));
        Check.refused(none, 1, "exact without a house", () -> none.exact(0, 1));
        Check.refused(none, 1, "worst without a house", () -> none.worst(0));
        Check.refused(none, 1, "signs without a house", () -> none.signs(0));
        Check.refused(none, 1, "bySlip without a house", () -> none.bySlip(0));
        Check.refused(none, 1, "bestSlip without a house", () -> none.bestSlip(0));
    }

    /** Two men; the second number goes from 0 up to below the bound. */
    private static void noSuch(ReelChange x, IntBinaryOperator call, int bound) {
        for (int man : new int[] {-1, 2, 4, Integer.MIN_VALUE, Integer.MAX_VALUE}) {
            Check.refused(x, 1, "(" + man + ", 1)", () -> call.applyAsInt(man, 1));
            Check.refused(x, 1, "(" + man + ", -1)", () -> call.applyAsInt(man, -1));
        }
        for (int second : new int[] {-1, bound, 8, Integer.MIN_VALUE, Integer.MAX_VALUE}) {
            Check.refused(x, 1, "(0, " + second + ")", () -> call.applyAsInt(0, second));
            Check.refused(x, 1, "(1, " + second + ")", () -> call.applyAsInt(1, second));
        }
        for (int second = 1; second < bound; second++) {
            int at = second;
            int answer = call.applyAsInt(1, second);
            Check.due("(1, " + second + ") is told", answer != -1, true);
            Check.told(x, "(1, " + second + ")", () -> call.applyAsInt(1, at), answer);
        }
    }

    private static void believes() {
        Check.holds(10, "On a reel he BELIEVES a frame: clean: its FIRST; early: the least of FIRST and its marks; late: the greatest; misled: that TOWN's mark, else FIRST.");
        int[][] due = {
            // marks of t and u; clean, early, late, misled t, misled u
            {19, 21, 20, 19, 21, 19, 21}, {21, 19, 20, 19, 21, 21, 19}, {20, 20, 20, 20, 20, 20, 20}, {21, 22, 20, 20, 22, 21, 22},
            {18, 19, 20, 18, 20, 18, 19}, {0, 49, 20, 0, 49, 0, 49}, {20, 21, 20, 20, 21, 20, 21}, {19, 20, 20, 19, 20, 19, 20}
        };
        String misled = ";man m misled t slip 5;man n misled u slip 5;shows a,b,a";
        for (int[] row : due) {
            ReelChange x = Check.open(house(1, 0, 0) + reel("a", 50, 20) + reel("b", 50, 30) + ";town t trust 5;town u trust 5"
                    + ";mark a " + row[0] + " by t;mark a " + row[1] + " by u;man c clean slip 5;man e early slip 5;man l late slip 5;man m misled t slip 5;shows a,b,a");
            Check.row("marks " + row[0] + ", " + row[1], new long[] {x.believes(0, 0), x.believes(1, 0), x.believes(2, 0), x.believes(3, 0), x.believes(3, 2)},
                    row[2], row[3], row[4], row[5], row[5]);
            Check.row("no marks of another reel", new long[] {x.believes(0, 1), x.believes(1, 1), x.believes(2, 1), x.believes(3, 1)}, 30, 30, 30, 30);
            ReelChange y = Check.open(house(1, 0, 0) + reel("a", 50, 20) + reel("b", 50, 30) + ";town t trust 5;town u trust 5"
                    + ";mark a " + row[0] + " by t;mark b " + row[1] + " by u" + misled);
            Check.row("both misled", new long[] {x.mark(0, 0), x.mark(0, 1)}, row[5], row[6]);
            Check.row("each on one reel alone", new long[] {y.believes(0, 0), y.believes(0, 1), y.believes(1, 0), y.believes(1, 1)}, row[0], 30, 20, row[1]);
        }
    }

    private static void lastFrame() {
        Check.holds(11, "At that frame and his slip (the last frame, if that is beyond; the first one shown, if that is ahead of it) he starts the motor of the other projector");
        int[][] due = {{0, 20}, {8, 28}, {9, 29}, {10, 29}, {40, 29}};
        for (int[] row : due) {
            ReelChange x = Check.open(house(3, 0, 0) + reel("a", 30, 20) + man(row[0]) + ";shows a,a");
            Check.due("starts by slip " + row[0], x.starts(0, 0), row[1]);
            Check.due("changes by slip " + row[0], x.changes(0, 0), Math.min(row[1] + 3, 30));
        }
        ReelChange first = Check.open(house(3, 0, 0) + reel("a", 30, 0) + man(0) + ";shows a,a");
        Check.due("at the first frame of all", first.starts(0, 0), 0);
        ReelChange last = Check.open(house(3, 0, 0) + reel("a", 30, 29) + man(0) + ";shows a,a");
        Check.row("FIRST is the last frame", new long[] {last.starts(0, 0), last.changes(0, 0), last.tail(0, 0)}, 29, 30, 0);
    }

    /** Of b ten frames are LOST: the first one shown is 10. */
    private static void firstOneShown() {
        Check.holds(11, "the first one shown, if that is ahead of it");
        int[][] due = {{9, 0, 10}, {10, 0, 10}, {11, 0, 11}, {0, 0, 10}, {5, 4, 10}, {5, 5, 10}, {5, 6, 11}, {29, 0, 29}, {29, 1, 29}};
        for (int[] row : due) {
            ReelChange x = Check.open(house(10, 0, 0) + reel("a", 100, 20) + reel("b", 30, row[0]) + man(row[1]) + ";shows a,b,a");
            Check.row("FIRST " + row[0] + ", slip " + row[1], new long[] {x.lost(0, 1), x.starts(0, 1), x.changes(0, 1), x.begins(0, 2)},
                    10, row[2], Math.min(row[2] + 10, 30), x.begins(0, 1) + Math.min(row[2] + 10, 30) - 10);
        }
        ReelChange one = Check.open(house(10, 0, 0) + reel("a", 100, 20) + reel("b", 11, 3) + man(0) + ";shows a,b,a");
        Check.row("the first one shown is the last frame, too", new long[] {one.lost(0, 1), one.starts(0, 1), one.changes(0, 1), one.tail(0, 1), one.lost(0, 2)},
                10, 10, 11, 0, 1);
    }

    private static void runsOut() {
        Check.holds(12, "so many frames as apart behind that (or when the reel has run out, if that is sooner) he CHANGES.");
        int[][] due = {{10, 18, 28, 2, 10}, {10, 19, 29, 1, 10}, {10, 20, 30, 0, 10}, {10, 21, 30, 0, 9}, {10, 29, 30, 0, 1}, {1, 28, 29, 1, 1}, {1, 29, 30, 0, 1},
            {50, 0, 30, 0, 30}, {29, 0, 29, 1, 29}, {30, 0, 30, 0, 30}, {31, 0, 30, 0, 30}};
        for (int[] row : due) {
            ReelChange x = Check.open(house(row[0], 0, 0) + reel("a", 30, row[1]) + reel("b", 90, 80) + man(0) + ";shows a,b");
            Check.row("apart " + row[0] + ", FIRST " + row[1], new long[] {x.starts(0, 0), x.changes(0, 0), x.tail(0, 0), x.begins(0, 1), x.lost(0, 1)},
                    row[1], row[2], row[3], row[2], row[4]);
        }
    }

    private static void lastReel() {
        Check.holds(11, "(On the last reel he does neither: it runs out.)");
        ReelChange x = Check.open(house(10, 0, 10) + reel("a", 30, 5) + man(0) + ";shows a,a");
        Check.row("the last", new long[] {x.starts(0, 1), x.changes(0, 1), x.tail(0, 1), x.length(0), x.believes(0, 1)}, -2, 30, 0, 45, 5);
        Check.row("the one ahead", new long[] {x.starts(0, 0), x.changes(0, 0), x.tail(0, 0)}, 5, 15, 15);
    }

    /** From the start of the motor till the change are 10 ticks; the motor takes 4. */
    private static void ahead() {
        Check.holds(14, "AHEAD: how many frames the next reel has gone by when he changes: from the start of the motor till the change, less motor, less its THREAD (leader at first).");
        Check.holds(14, "If it is above 0, so many frames at its head are LOST; below 0, so many ticks are BLACK, then it begins.");
        int[][] due = {{0, 6, 0}, {4, 2, 0}, {5, 1, 0}, {6, 0, 0}, {7, 0, 1}, {8, 0, 2}, {99, 0, 93}};
        for (int[] row : due) {
            ReelChange x = Check.open(house(10, 4, row[0]) + reel("a", 30, 5) + man(0) + ";shows a,a");
            Check.row("leader " + row[0], new long[] {x.lost(0, 1), x.black(0, 1), x.begins(0, 1), x.length(0)}, row[1], row[2], 15 + row[2], 45 + row[2] - row[1]);
            ReelChange y = Check.open(house(10, 4, 50) + reel("a", 30, 5) + man(0) + ";shows a,a");
            y.threads(1, row[0]);
            Check.row("thread " + row[0], new long[] {y.lost(0, 1), y.black(0, 1), y.begins(0, 1)}, row[1], row[2], 15 + row[2]);
        }
        for (int motor = 5; motor <= 7; motor++) {
            ReelChange x = Check.open(house(10, motor, 4) + reel("a", 30, 5) + man(0) + ";shows a,a");
            Check.row("motor " + motor, new long[] {x.lost(0, 1), x.black(0, 1)}, Math.max(6 - motor, 0), Math.max(motor - 6, 0));
        }
        ReelChange most = Check.open(house(1, 50, 0) + reel("a", 30, 29) + man(0) + ";shows a,a");
        most.threads(1, 199);
        Check.row("as BLACK as can be", new long[] {most.lost(0, 1), most.black(0, 1), most.begins(0, 1)}, 0, 248, 278);
        ReelChange lost = Check.open(house(50, 0, 0) + reel("a", 90, 5) + man(0) + ";shows a,a");
        Check.row("as many LOST as can be", new long[] {lost.lost(0, 1), lost.black(0, 1), lost.begins(0, 1)}, 50, 0, 55);
    }

    /** b has six frames; AHEAD of it is 10 less its THREAD. */
    private static void goneBy() {
        Check.holds(13, "A reel that has no frame left by AHEAD is gone by: all of it is LOST, and it is changed at once");
        int[][] due = {{6, 4, 0}, {5, 5, 0}, {4, 6, 1}, {3, 6, 1}, {0, 6, 1}};
        for (int[] row : due) {
            ReelChange x = Check.open(house(10, 0, row[0]) + reel("a", 30, 5) + reel("b", 6, 5) + man(0) + ";shows a,b,a");
            boolean gone = row[2] == 1;
            Check.row("leader " + row[0], new long[] {x.lost(0, 1), x.all(0, 3), x.black(0, 1), x.tail(0, 1), x.starts(0, 1), x.changes(0, 1), x.begins(0, 1), x.begins(0, 2)},
                    row[1], row[2], 0, 0, gone ? -2 : 5, gone ? 0 : 6, 15, gone ? 15 : 15 + 6 - row[1] + Math.max(row[0] - 1, 0));
            Check.due("it is believed all the same", x.believes(0, 1), 5);
        }
        ReelChange two = Check.open(house(10, 0, 9) + reel("a", 30, 5) + reel("b", 2, 0) + man(0) + ";shows a,b,a");
        Check.row("one of two frames left", new long[] {two.lost(0, 1), two.all(0, 3), two.starts(0, 1), two.changes(0, 1), two.length(0)}, 1, 0, 1, 2, 15 + 1 + 8 + 30);
        two.threads(1, 8);
        Check.row("none of two", new long[] {two.lost(0, 1), two.all(0, 3), two.starts(0, 1), two.changes(0, 1), two.length(0)}, 2, 1, -2, 0, 45);
    }

    private static void behindGoneBy() {
        Check.holds(16, "(it has no TAIL; the next one begins at that tick, from its first frame, its motor starting then)");
        ReelChange x = Check.open(house(10, 3, 0) + reel("a", 30, 5) + reel("b", 2, 0) + man(0) + ";shows a,b,a,a");
        for (int thread : new int[] {199, 1, 0}) {
            x.threads(2, thread);
            Check.row("whatever is threaded: " + thread, new long[] {x.lost(0, 2), x.black(0, 2), x.begins(0, 1), x.begins(0, 2), x.tail(0, 1), x.starts(0, 2), x.changes(0, 2),
                x.begins(0, 3), x.lost(0, 3)}, 0, 0, 15, 15, 0, 5, 15, 30, 7);
        }
        ReelChange twice = Check.open(house(10, 0, 0) + reel("a", 30, 5) + reel("b", 2, 0) + man(0) + ";shows a,b,b,b");
        Check.row("the next one is never gone by, the one behind it may be", new long[] {twice.lost(0, 1), twice.lost(0, 2), twice.lost(0, 3), twice.all(0, 3), twice.starts(0, 2),
            twice.changes(0, 2), twice.begins(0, 3), twice.length(0)}, 2, 0, 2, 2, 0, 2, 17, 17);
    }

    private static void goneByAtTheEnd() {
        Check.holds(17, "`int length(int man)`: All ticks.");
        int[][] due = {{5, 5, 6, 16}, {4, 6, 0, 15}, {3, 6, 0, 15}};
        for (int[] row : due) {
            ReelChange x = Check.open(house(10, 0, row[0]) + reel("a", 30, 5) + reel("b", 6, 0) + man(0) + ";shows a,b");
            Check.row("leader " + row[0], new long[] {x.lost(0, 1), x.changes(0, 1), x.length(0), x.tail(0, 1), x.starts(0, 1), x.begins(0, 1)}, row[1], row[2], row[3], 0, -2, 15);
        }
    }

    private static void firstPlace() {
        Check.holds(13, "the first on projector 0");
        ReelChange x = Check.open(house(10, 0, 99) + reel("a", 30, 5) + man(0) + ";shows a,a");
        for (int thread : new int[] {0, 1, 199}) {
            x.threads(0, thread);
            Check.row("ahead of place 0 nothing is LOST nor BLACK", new long[] {x.lost(0, 0), x.black(0, 0), x.begins(0, 0), x.starts(0, 0)}, 0, 0, 0, 5);
        }
    }

    private static void tails() {
        Check.holds(15, "TAIL: frames of a reel that aren't shown at its end (the last one's 0).");
        int[][] due = {{18, 2}, {19, 1}, {20, 0}, {21, 0}};
        for (int[] row : due) {
            ReelChange x = Check.open(house(10, 0, 10) + reel("a", 30, row[0]) + man(0) + ";shows a,a,a");
            Check.row("FIRST " + row[0], new long[] {x.tail(0, 0), x.tail(0, 1), x.tail(0, 2), x.all(0, 2)}, row[1], row[1], 0, 2 * row[1]);
        }
    }

    private static void length() {
        Check.holds(17, "A NIGHT by a man, in ticks (a frame each)");
        ReelChange x = Check.open(house(1, 0, 1) + reel("a", 2000, 1999) + man(0) + ";shows a,a,a,a,a,a,a,a");
        Check.row("eight whole reels", new long[] {x.length(0), x.begins(0, 7), x.all(0, 0), x.all(0, 1), x.all(0, 2)}, 16000, 14000, 0, 0, 0);
        ReelChange least = Check.open(house(1, 0, 1) + reel("a", 2, 0) + man(0) + ";shows a,a");
        Check.row("two small ones", new long[] {least.length(0), least.tail(0, 0), least.begins(0, 1)}, 3, 1, 1);
    }

    private static void sums() {
        Check.holds(18, "All 0 LOST, 1 BLACK, 2 TAILS, 3 reels gone by.");
        ReelChange x = Check.open(house(10, 0, 10) + reel("a", 30, 5) + reel("b", 2, 1) + man(0) + ";shows a,a,a,b,a,a");
        Check.row("TAILS of 15, 9 BLACK behind b", new long[] {x.all(0, 0), x.all(0, 1), x.all(0, 2), x.all(0, 3)}, 0, 9, 60, 0);
        x.threads(1, 7);
        x.threads(2, 12);
        x.threads(3, 0);
        Check.row("3 LOST, 2 BLACK, b gone by", new long[] {x.all(0, 0), x.all(0, 1), x.all(0, 2), x.all(0, 3)}, 5, 2, 60, 1);
    }

    /** Each change has a TAIL of 5 ahead of it, and nothing LOST nor BLACK at first. */
    private static void worst() {
        Check.holds(19, "The place of the worst change: of most LOST and BLACK ahead of it and TAIL of the one ahead, the first such.");
        ReelChange x = Check.open(house(10, 0, 10) + reel("a", 30, 15) + reel("b", 30, 16) + man(0) + ";shows a,a,a,b,a");
        Check.due("of like ones the first", x.worst(0), 1);
        x.threads(2, 11);
        Check.due("one BLACK more", x.worst(0), 2);
        x.threads(1, 9);
        Check.due("one LOST, as many: the first", x.worst(0), 1);
        x.threads(3, 8);
        Check.due("two LOST", x.worst(0), 3);
        x.threads(4, 12);
        Check.due("at the last the TAIL ahead is one fewer, so two BLACK are no more", x.worst(0), 3);
        x.threads(4, 14);
        Check.due("four are", x.worst(0), 4);
        ReelChange none = Check.open(house(10, 0, 10) + reel("a", 30, 20) + man(0) + ";shows a,a,a");
        Check.due("none is bad: the first change", none.worst(0), 1);
        ReelChange tail = Check.open(house(10, 0, 10) + reel("a", 30, 20) + reel("b", 30, 19) + man(0) + ";shows a,b,a");
        Check.due("a TAIL of the one ahead", tail.worst(0), 2);
        ReelChange gone = Check.open(house(10, 0, 0) + reel("a", 30, 20) + reel("b", 9, 0) + reel("c", 11, 0) + man(0) + ";shows a,b,a,c");
        Check.due("all 9 of b, 10 of c", gone.worst(0), 3);
    }

    private static void exact() {
        Check.holds(20, "THREAD (0 .. 199) with which AHEAD of a place is as near 0 as can be; -2 behind a reel gone by.");
        int[][] due = {{12, 0}, {11, 0}, {10, 0}, {9, 1}, {8, 2}, {0, 10}};
        for (int[] row : due) {
            ReelChange x = Check.open(house(10, row[0], 50) + reel("a", 30, 5) + man(0) + ";shows a,a,a");
            Check.row("motor " + row[0], new long[] {x.exact(0, 1), x.exact(0, 2)}, row[1], row[1]);
            x.threads(1, row[1]);
            Check.row("by it", new long[] {x.lost(0, 1), x.black(0, 1), x.exact(0, 1)}, 0, Math.max(row[0] - 10, 0), row[1]);
        }
        ReelChange most = Check.open(house(50, 0, 0) + reel("a", 90, 5) + man(0) + ";shows a,a");
        Check.due("most", most.exact(0, 1), 50);
        ReelChange gone = Check.open(house(10, 0, 0) + reel("a", 30, 5) + reel("b", 10, 5) + man(0) + ";shows a,b,a,b");
        Check.row("it goes by; behind it; at the end", new long[] {gone.exact(0, 1), gone.exact(0, 2), gone.exact(0, 3), gone.trouble()}, 10, -2, 10, 0);
        gone.threads(1, 1);
        Check.row("with a frame left it is shown", new long[] {gone.exact(0, 1), gone.exact(0, 2)}, 10, 1);
    }

    /** At place 1 two are LOST, at place 2 three are BLACK. */
    private static void signs() {
        Check.holds(21, "A SIGN is so by a man if the place has so much BLACK, so much LOST in his NIGHT.");
        ReelChange x = Check.open(house(10, 0, 10) + reel("a", 30, 5) + man(0) + ";shows a,a,a;seen 1 black 0 lost 2;seen 1 black 0 lost 1;seen 1 black 0 lost 3"
                + ";seen 2 black 3 lost 0;seen 2 black 2 lost 0;seen 2 black 3 lost 1");
        Check.due("none", x.signs(0), 0);
        x.threads(1, 8);
        Check.due("two LOST", x.signs(0), 1);
        x.threads(2, 13);
        Check.due("three BLACK", x.signs(0), 9);
        x.threads(1, 9);
        x.threads(2, 12);
        Check.due("one LOST, two BLACK", x.signs(0), 18);
        x.threads(1, 7);
        Check.due("three LOST", x.signs(0), 20);
        ReelChange none = Check.open(house(10, 0, 10) + reel("a", 30, 5) + man(0) + ";shows a,a");
        Check.row("no SIGNS", new long[] {none.signs(0), none.trouble()}, 0, 0);
        ReelChange six = Check.open(house(10, 0, 10) + reel("a", 30, 5) + man(0) + ";shows a,a" + Texts.times(";seen 1 black 0 lost 0", 6));
        Check.due("six", six.signs(0), 63);
    }

    private static void fits() {
        Check.holds(22, "Men by whom all SIGNS are so, as bits. NONE: 1 (no HOUSE).");
        String men = house(10, 0, 10) + reel("r", 30, 19) + ";man a clean slip 0;man b clean slip 1;man c clean slip 2;man d clean slip 3;shows r,r,r";
        Check.due("no SIGNS: all", Check.open(men).fits(), 15);
        Check.due("by 0 and 1 the motor runs 10 ticks", Check.open(men + ";seen 1 black 0 lost 0").fits(), 3);
        Check.due("by 2 it runs 9", Check.open(men + ";seen 1 black 1 lost 0").fits(), 4);
        Check.due("by 3 it runs 8", Check.open(men + ";seen 1 black 2 lost 0;seen 2 black 2 lost 0").fits(), 8);
        Check.due("not all SIGNS", Check.open(men + ";seen 1 black 0 lost 0;seen 2 black 1 lost 0").fits(), 0);
        Check.due("six SIGNS", Check.open(men + Texts.times(";seen 1 black 0 lost 0", 5) + ";seen 2 black 0 lost 0").fits(), 3);
        Check.due("five of six", Check.open(men + Texts.times(";seen 1 black 0 lost 0", 5) + ";seen 2 black 0 lost 1").fits(), 0);
        ReelChange none = new ReelChange();
        Check.refused(none, 1, "fits without a house", none::fits);
    }

    /** Two reels, apart 10 and leader 10: the TAIL of the first is 30 less 10, FIRST and slip; BLACK is what lacks of 10. */
    private static void bestSlip() {
        Check.holds(23, "BEST SLIP of a man: that (0 .. 40) by which his NIGHT has least LOST, BLACK and TAILS together, the first such.");
        int[][] due = {{21, 0, 1}, {20, 0, 0}, {19, 1, 0}, {18, 2, 0}, {0, 20, 0}, {29, 0, 9}};
        for (int[] row : due) {
            ReelChange x = Check.open(house(10, 0, 10) + reel("a", 30, row[0]) + man(7) + ";shows a,a");
            Check.row("FIRST " + row[0], new long[] {x.bestSlip(0), x.bySlip(0)}, row[1], row[2]);
        }
        int[][] bounds = {{51, 39, 0}, {50, 40, 0}, {49, 40, 1}, {0, 40, 50}};
        for (int[] row : bounds) {
            ReelChange x = Check.open(house(10, 0, 10) + reel("a", 100, row[0]) + man(0) + ";shows a,a");
            Check.row("FIRST " + row[0] + " of 100", new long[] {x.bestSlip(0), x.bySlip(0)}, Math.min(90 - row[0], row[1]), row[2]);
        }
    }

    private static void bySlip() {
        Check.holds(24, "LOST, BLACK and TAILS together by it.");
        ReelChange x = Check.open(house(10, 0, 12) + reel("a", 30, 18) + reel("b", 30, 16) + man(0) + ";shows a,b,a");
        Check.row("slip 2: BLACK 2 and 2, TAIL 2; slip 3: BLACK 3 and 2, TAIL 1; as many: the first is told", new long[] {x.bestSlip(0), x.bySlip(0)}, 2, 6);
        x.threads(1, 9);
        Check.row("one LOST by slip 2, none by 3", new long[] {x.bestSlip(0), x.bySlip(0)}, 3, 3);
        ReelChange like = Check.open(house(10, 0, 0) + reel("a", 30, 29) + man(40) + ";shows a,a");
        Check.row("all slips are like", new long[] {like.bestSlip(0), like.bySlip(0)}, 0, 1);
    }
}

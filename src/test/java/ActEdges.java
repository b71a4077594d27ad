import java.util.NoSuchElementException;

/** Edges of promises 48 to 55: acts, undoing, images, what is told. */
final class ActEdges {
    private ActEdges() {
    }

    static void all() {
        threads();
        trim();
        mendRefused();
        fewerThanSix();
        twoSooner();
        zeroAtLeast();
        beyondTheLastFrame();
        weakPlacesMove();
        joinThere();
        otherReels();
        undo();
        twelveAreKept();
        undoneAll();
        images();
        back();
        led();
        size();
    }

    private static String print(int frames, int first, String more) {
        return Texts.HOUSE.replace("leader 0", "leader 9") + ";reel a frames " + frames + " first " + first + " whole 99;reel b frames 50 first 25 whole 99"
                + ";town t trust 5;town u trust 5;man m clean slip 0;shows a,b,a" + more;
    }

    private static void threads() {
        Check.holds(48, "THREAD of a shown reel (by its place in shows; 0 .. 199)");
        ReelChange x = Check.open(print(20, 5, ""));
        for (int frames : new int[] {0, 1, 198, 199}) {
            Check.toldAct(x, "threads(2, " + frames + ")", () -> x.threads(2, frames));
            Check.row("thread", new long[] {x.thread(0), x.thread(1), x.thread(2)}, 9, 9, frames);
        }
        Check.holds(48, "THREAD: true; false: 1; 2; 5 (it is so).");
        for (int frames : new int[] {-1, 200, Integer.MIN_VALUE, Integer.MAX_VALUE}) {
            Check.refusedAct(x, 2, "threads(0, " + frames + ")", () -> x.threads(0, frames));
            Check.refusedAct(x, 1, "threads(3, " + frames + "): 1 goes ahead of 2", () -> x.threads(3, frames));
        }
        for (int place : new int[] {-1, 3, 8, Integer.MIN_VALUE, Integer.MAX_VALUE}) {
            Check.refusedAct(x, 1, "threads(" + place + ", 1)", () -> x.threads(place, 1));
        }
        Check.refusedAct(x, 5, "threads(0, 9)", () -> x.threads(0, 9));
        Check.refusedAct(x, 5, "threads(2, 199)", () -> x.threads(2, 199));
        Check.due("acts", x.size(15), 4);
        Check.toldAct(x, "threads(0, 8)", () -> x.threads(0, 8));
        Check.toldAct(x, "threads(0, 9)", () -> x.threads(0, 9));
        Check.row("what is refused changes nothing", new long[] {x.thread(0), x.thread(1), x.thread(2), x.size(15)}, 9, 9, 199, 6);
        ReelChange none = new ReelChange();
        Check.refusedAct(none, 1, "threads without a house", () -> none.threads(0, 0));
    }

    private static void trim() {
        Check.holds(49, "TRIM: true; false: 1; 5 (it is so).");
        ReelChange x = Check.open(print(20, 5, ""));
        for (int place = 0; place < 3; place++) {
            int at = place;
            Check.refusedAct(x, 5, "trim(" + at + ", false) at first", () -> x.trim(at, false));
            Check.toldAct(x, "trim(" + at + ", true)", () -> x.trim(at, true));
            Check.refusedAct(x, 5, "trim(" + at + ", true) again", () -> x.trim(at, true));
            Check.toldAct(x, "trim(" + at + ", false)", () -> x.trim(at, false));
            Check.toldAct(x, "trim(" + at + ", true) anew", () -> x.trim(at, true));
        }
        for (int place : new int[] {-1, 3, 8, 32, Integer.MIN_VALUE, Integer.MAX_VALUE}) {
            Check.refusedAct(x, 1, "trim(" + place + ", true)", () -> x.trim(place, true));
            Check.refusedAct(x, 1, "trim(" + place + ", false)", () -> x.trim(place, false));
        }
        Check.due("acts", x.size(15), 9);
        ReelChange none = new ReelChange();
        Check.refusedAct(none, 1, "trim without a house", () -> none.trim(0, true));
        Check.refusedAct(none, 1, "trim without a house", () -> none.trim(0, false));
    }

    private static void mendRefused() {
        Check.holds(50, "MEND: frames of its reel then. NONE: 1; 5 (it is mended, too few frames).");
        ReelChange x = Check.open(print(20, 5, ";weak a 3 snaps 1;weak b 3 snaps 1"));
        for (int weak : new int[] {-1, 2, 6, 32, Integer.MIN_VALUE, Integer.MAX_VALUE}) {
            Check.refused(x, 1, "mend(" + weak + ")", () -> x.mend(weak));
        }
        Check.told(x, "mend(1)", () -> x.mend(1), 48);
        Check.refused(x, 5, "mend(1) again", () -> x.mend(1));
        Check.told(x, "mend(0)", () -> x.mend(0), 18);
        Check.refused(x, 5, "mend(0) again", () -> x.mend(0));
        Check.row("what is refused changes nothing", new long[] {x.reel(0, 0), x.reel(1, 0), x.size(15), x.size(9)}, 18, 48, 2, 2);
        ReelChange none = new ReelChange();
        Check.refused(none, 1, "mend without a house", () -> none.mend(0));
    }

    private static void fewerThanSix() {
        Check.holds(50, "not if it has fewer than 6 frames");
        int[][] due = {{4, -1}, {5, -1}, {6, 4}, {7, 5}};
        for (int[] row : due) {
            ReelChange x = Check.open(print(row[0], 1, ";weak a 3 snaps 1;weak a 0 snaps 1"));
            if (row[1] < 0) {
                Check.refused(x, 5, "mend of " + row[0] + " frames", () -> x.mend(0));
                Check.row("nothing is mended", new long[] {x.reel(0, 0), x.reel(0, 5), x.size(9), x.size(15), x.led(0)}, row[0], 2, 0, 0, 0);
            } else {
                Check.told(x, "mend of " + row[0] + " frames", () -> x.mend(0), row[1]);
                Check.refused(x, 5, "then it has fewer", () -> x.mend(1));
            }
        }
        ReelChange eight = Check.open(print(8, 1, ";weak a 3 snaps 1;weak a 0 snaps 1;weak a 7 snaps 1"));
        Check.row("8, 6, 4", new long[] {eight.mend(2), eight.mend(0), eight.mend(1), eight.trouble()}, 6, 4, -1, 5);
    }

    private static void twoSooner() {
        Check.holds(50, "FIRST, marks and weak places behind it, or at it, come 2 sooner");
        int[][] due = {{8, 8}, {9, 9}, {10, 8}, {11, 9}, {12, 10}, {29, 27}};
        for (int[] row : due) {
            ReelChange first = Check.open(print(30, row[0], ";weak a 10 snaps 1"));
            Check.row("FIRST at " + row[0], new long[] {first.mend(0), first.reel(0, 1)}, 28, row[1]);
            ReelChange mark = Check.open(print(30, 0, ";mark a " + row[0] + " by t;mark a 0 by u;weak a 10 snaps 1"));
            Check.row("a mark at " + row[0], new long[] {mark.mend(0), mark.mark(0, 0), mark.mark(0, 1), mark.reel(0, 1)}, 28, row[1], 0, 0);
        }
    }

    private static void zeroAtLeast() {
        Check.holds(50, "0 at least");
        int[][] due = {{0, 0, 0}, {0, 1, 0}, {0, 2, 0}, {0, 3, 1}, {1, 0, 0}, {1, 1, 0}, {1, 2, 0}, {1, 3, 1}, {2, 1, 1}, {2, 2, 0}, {2, 3, 1}};
        for (int[] row : due) {
            ReelChange x = Check.open(print(30, row[1], ";mark a " + row[1] + " by t;weak a " + row[0] + " snaps 1"));
            Check.row("mended at " + row[0] + ", what was at " + row[1], new long[] {x.mend(0), x.reel(0, 1), x.mark(0, 0)}, 28, row[2], row[2]);
        }
    }

    private static void beyondTheLastFrame() {
        Check.holds(50, "whichever lies beyond the last frame then, lies at it");
        // of 30 frames 28 stay, the last is 27
        int[][] due = {{29, 26, 26}, {29, 27, 27}, {29, 28, 27}, {29, 29, 27}, {28, 27, 27}, {28, 28, 26}, {28, 29, 27}, {27, 26, 26}, {27, 27, 25}, {27, 29, 27}};
        for (int[] row : due) {
            ReelChange x = Check.open(print(30, row[1], ";mark a " + row[1] + " by t;weak a " + row[0] + " snaps 1"));
            Check.row("mended at " + row[0] + ", what was at " + row[1], new long[] {x.mend(0), x.reel(0, 1), x.mark(0, 0)}, 28, row[2], row[2]);
        }
    }

    /** A second mend tells where its weak place had come: marks at it come sooner, marks ahead of it stay. */
    private static void weakPlacesMove() {
        Check.holds(50, "FIRST, marks and weak places behind it, or at it, come 2 sooner, 0 at least; whichever lies beyond the last frame then, lies at it");
        int[][] due = {
            // the first mend at 10: where the other weak place is told, and where it has come
            {9, 9}, {11, 9}, {12, 10}, {13, 11}, {29, 27}
        };
        for (int[] row : due) {
            for (int at = row[1] - 1; at <= row[1] + 1; at++) {
                // a mark that comes to lie at that frame by the first mend
                int told = at >= 8 ? at + 2 : at;
                if (told <= 29) {
                    ReelChange x = Check.open(print(30, 0, ";mark a " + told + " by t;weak a 10 snaps 1;weak a " + row[0] + " snaps 1"));
                    x.mend(0);
                    int now = told >= 10 ? told - 2 : told;
                    Check.due("the mark, told at " + told, x.mark(0, 0), now);
                    x.mend(1);
                    Check.due("by the second mend, told at " + row[0], x.mark(0, 0), Math.min(now >= row[1] ? now - 2 : now, 25));
                }
            }
        }
        // beyond the last: of 30 frames 28 stay; a weak place at 28, ahead of the one mended at 29, lies at 27 then
        ReelChange last = Check.open(print(30, 0, ";mark a 27 by t;mark a 26 by u;weak a 29 snaps 1;weak a 28 snaps 1"));
        last.mend(0);
        Check.row("the marks stay", new long[] {last.mark(0, 0), last.mark(0, 1)}, 27, 26);
        last.mend(1);
        Check.row("27 is at it, and comes to 25; 26 is ahead of it, but beyond the last frame: 25", new long[] {last.mark(0, 0), last.mark(0, 1), last.reel(0, 0)}, 25, 25, 26);
        // 0 at least: the one at 1 comes to 0
        ReelChange zero = Check.open(print(30, 0, ";mark a 2 by t;mark a 3 by u;weak a 0 snaps 1;weak a 1 snaps 1"));
        Check.row("both", new long[] {zero.mend(0), zero.mark(0, 0), zero.mark(0, 1), zero.mend(1), zero.mark(0, 0), zero.mark(0, 1)}, 28, 0, 1, 26, 0, 0);
    }

    private static void joinThere() {
        Check.holds(50, "MENDED: it is a weak place no more, its reel has a join there that lacks 2, and 2 frames fewer");
        ReelChange x = Check.open(print(20, 5, ";join a 1 lacks 30;weak a 3 snaps 1;weak a 9 snaps 1"));
        Check.row("ahead of it", new long[] {x.reel(0, 0), x.reel(0, 2), x.reel(0, 4), x.reel(0, 5), x.size(9), x.size(10), x.missing(0, false), x.missing(0, true)}, 20, 99, 1, 2, 1, 2, 79, 49);
        x.mend(0);
        Check.row("then", new long[] {x.reel(0, 0), x.reel(0, 2), x.reel(0, 4), x.reel(0, 5), x.size(9), x.size(10), x.missing(0, false), x.missing(0, true)}, 18, 99, 2, 1, 2, 2, 81, 49);
        x.mend(1);
        Check.row("then", new long[] {x.reel(0, 0), x.reel(0, 4), x.reel(0, 5), x.size(9), x.words(0)}, 16, 3, 0, 3, 1);
        ReelChange full = Check.open(print(20, 5, Texts.times(";join a 1 lacks 24", 8) + ";weak a 3 snaps 1"));
        Check.row("eight joins are told, a ninth is made", new long[] {full.mend(0), full.reel(0, 4), full.size(9), full.words(0)}, 18, 9, 9, 8);
    }

    private static void otherReels() {
        Check.holds(50, "its reel has a join there");
        ReelChange x = Check.open(print(20, 5, ";mark b 49 by t;weak a 3 snaps 1;weak b 40 snaps 1"));
        x.mend(0);
        Check.row("the other reel stays", new long[] {x.reel(1, 0), x.reel(1, 1), x.reel(1, 4), x.reel(1, 5), x.mark(1, 0)}, 50, 25, 0, 1, 49);
        Check.row("the night is shorter: a is shown twice", new long[] {x.changes(0, 2)}, 18);
    }

    private static void undo() {
        Check.holds(51, "UNDO: true; false: 6.");
        ReelChange none = new ReelChange();
        Check.refusedAct(none, 6, "undo without a house", none::undo);
        ReelChange x = Check.open(print(20, 5, ";mark a 9 by t;weak a 3 snaps 1"));
        Check.refusedAct(x, 6, "nothing to undo", x::undo);
        x.threads(0, 200);
        x.mend(7);
        x.trim(0, false);
        Check.refusedAct(x, 6, "what is refused can't be undone", x::undo);
        Check.holds(51, "ACTS: THREAD of a shown reel (by its place in shows; 0 .. 199), TRIM (a place, or no more), MEND. UNDO: the latest (12 are kept).");
        x.threads(0, 1);
        Check.toldAct(x, "undo a THREAD", x::undo);
        Check.row("thread", new long[] {x.thread(0), x.size(15)}, 9, 0);
        x.trim(2, true);
        Check.toldAct(x, "undo a TRIM", x::undo);
        Check.refusedAct(x, 5, "it isn't trimmed", () -> x.trim(2, false));
        x.mend(0);
        Check.toldAct(x, "undo a MEND", x::undo);
        Check.row("frames, FIRST, the mark, joins, weak places", new long[] {x.reel(0, 0), x.reel(0, 1), x.mark(0, 0), x.reel(0, 4), x.reel(0, 5), x.led(0)}, 20, 5, 9, 0, 1, 0);
        Check.refusedAct(x, 6, "nothing to undo", x::undo);
        x.threads(1, 5);
        x.trim(1, true);
        x.trim(1, false);
        x.undo();
        Check.refusedAct(x, 5, "the latest: it is trimmed again", () -> x.trim(1, true));
        Check.due("the thread ahead of it stays", x.thread(1), 5);
    }

    private static void twelveAreKept() {
        Check.holds(51, "UNDO: the latest (12 are kept).");
        for (int acts : new int[] {11, 12, 13, 24, 25}) {
            ReelChange x = Check.open(print(20, 5, ""));
            for (int i = 1; i <= acts; i++) {
                x.threads(1, 100 + i);
                Check.due("acts", x.size(15), Math.min(i, 12));
            }
            int kept = Math.min(acts, 12);
            for (int i = 1; i <= kept; i++) {
                Check.toldAct(x, "undo " + i + " of " + acts, x::undo);
                Check.row("then", new long[] {x.thread(1), x.size(15)}, acts - i == 0 ? 9 : 100 + acts - i, kept - i);
            }
            Check.refusedAct(x, 6, "one more of " + acts, x::undo);
            Check.toldAct(x, "an act behind that", () -> x.threads(1, 7));
            Check.toldAct(x, "is undone", x::undo);
            Check.refusedAct(x, 6, "no more", x::undo);
        }
    }

    private static void undoneAll() {
        Check.holds(51, "UNDO: the latest");
        ReelChange x = Check.open(print(30, 15, Texts.times(";weak a 1@ snaps 9", 6)));
        for (int weak = 5; weak >= 0; weak--) {
            x.mend(weak);
        }
        Check.row("all six mended", new long[] {x.reel(0, 0), x.reel(0, 5), x.reel(0, 4)}, 18, 0, 6);
        for (int weak = 0; weak <= 5; weak++) {
            x.undo();
            Check.row("undone " + weak, new long[] {x.reel(0, 0), x.reel(0, 5), x.led(weak)}, 20 + 2 * weak, weak + 1, weak);
        }
        Check.due("FIRST", x.reel(0, 1), 15);
    }

    private static void images() {
        Check.holds(52, "An IMAGE: its number. NONE: 1 (no HOUSE); 3.");
        ReelChange none = new ReelChange();
        Check.refused(none, 1, "image without a house", none::image);
        ReelChange x = Check.open(print(20, 5, ""));
        for (int i = 0; i < 3; i++) {
            Check.told(x, "image " + i, x::image, i);
            Check.due("images", x.size(16), i + 1);
        }
        Check.refused(x, 3, "a fourth", x::image);
        Check.refused(x, 3, "nor a fifth", x::image);
        x.back(0);
        Check.refused(x, 3, "gone back to one, all stay", x::image);
        Check.due("images", x.size(16), 3);
        Check.house(x, "house");
        Check.refused(x, 3, "behind a FAULT", x::image);
        Check.house(x, print(20, 5, ""));
        Check.told(x, "of another HOUSE", x::image, 0);
    }

    private static void back() {
        Check.holds(53, "All is as by an IMAGE (all IMAGES stay): true; false: 1.");
        ReelChange none = new ReelChange();
        Check.refusedAct(none, 1, "back without a house", () -> none.back(0));
        ReelChange x = Check.open(print(20, 5, ";mark a 9 by t;weak a 3 snaps 1"));
        Check.refusedAct(x, 1, "back(0) without images", () -> x.back(0));
        x.image();
        Check.refusedAct(x, 1, "back(1) with one", () -> x.back(1));
        x.threads(1, 1);
        x.trim(1, true);
        x.mend(0);
        x.image();
        x.threads(1, 2);
        x.trim(1, false);
        x.image();
        for (int image : new int[] {-1, 3, Integer.MIN_VALUE, Integer.MAX_VALUE}) {
            Check.refusedAct(x, 1, "back(" + image + ")", () -> x.back(image));
        }
        Check.row("what is refused changes nothing", new long[] {x.thread(1), x.reel(0, 0), x.size(15), x.size(16)}, 2, 18, 5, 3);
        int[][] due = {{0, 9, 20, 5, 9, 0, 0}, {1, 1, 18, 3, 7, 1, 1}, {2, 2, 18, 3, 7, 1, 0}, {1, 1, 18, 3, 7, 1, 1}, {0, 9, 20, 5, 9, 0, 0}};
        for (int[] row : due) {
            Check.toldAct(x, "back(" + row[0] + ")", () -> x.back(row[0]));
            Check.row("as by it", new long[] {x.thread(1), x.reel(0, 0), x.reel(0, 1), x.mark(0, 0), x.reel(0, 4)}, row[1], row[2], row[3], row[4], row[5]);
            Check.refusedAct(x, 5, "trimmed as by it", () -> x.trim(1, row[6] == 1));
            Check.row("acts, images", new long[] {x.size(15), x.size(16)}, 0, 3);
        }
        Check.holds(53, "IMAGES: up to 3; gone back to one, nothing can be undone.");
        x.threads(1, 77);
        Check.row("an act, then back", new long[] {x.size(15), x.back(2) ? 1 : 0, x.size(15)}, 1, 1, 0);
        Check.refusedAct(x, 6, "nothing can be undone", x::undo);
        x.threads(1, 78);
        Check.toldAct(x, "an act behind it can", x::undo);
        Check.row("as by the image", new long[] {x.thread(1), x.reel(0, 0)}, 2, 18);
        Check.refusedAct(x, 6, "and no more", x::undo);
        x.threads(1, 79);
        x.back(2);
        Check.due("acts don't change an image", x.thread(1), 2);
        ReelChange y = Check.open(print(20, 5, ""));
        y.threads(0, 3);
        y.image();
        Check.toldAct(y, "an image alone leaves what can be undone", y::undo);
        Check.row("undone; the image stays", new long[] {y.thread(0), y.size(16), y.back(0) ? 1 : 0, y.thread(0)}, 9, 1, 1, 3);
    }

    private static void ledThrows(ReelChange x, int i) {
        boolean thrown = false;
        try {
            x.led(i);
        } catch (NoSuchElementException e) {
            thrown = true;
        }
        Check.due("led(" + i + ") throws NoSuchElementException", thrown, true);
    }

    private static void led() {
        Check.holds(54, "The i-th weak place, by numbers, that isn't MENDED. NoSuchElementException if there is none such.");
        ledThrows(new ReelChange(), 0);
        ReelChange no = Check.open(print(20, 5, ""));
        ledThrows(no, 0);
        ledThrows(no, -1);
        ReelChange x = Check.open(print(30, 5, Texts.times(";weak a 1@ snaps 9", 6)));
        int[][] due = {{0, 1, 2, 3, 4, 5}, {0, 1, 3, 4, 5}, {1, 3, 4, 5}, {1, 3, 4}};
        int[] mended = {2, 0, 5};
        for (int step = 0; step < due.length; step++) {
            for (int i = 0; i < due[step].length; i++) {
                Check.due("led(" + i + ")", x.led(i), due[step][i]);
            }
            for (int i : new int[] {-1, due[step].length, due[step].length + 1, Integer.MIN_VALUE, Integer.MAX_VALUE}) {
                ledThrows(x, i);
            }
            if (step < mended.length) {
                x.mend(mended[step]);
            }
        }
        x.undo();
        Check.due("undone", x.led(3), 5);
    }

    private static void size() {
        Check.holds(55, "NONE for others; 0 for what there isn't.");
        ReelChange none = new ReelChange();
        for (int what = 0; what <= 17; what++) {
            Check.due("size(" + what + ") without a house", none.size(what), 0);
        }
        ReelChange x = Check.open(Houses.THREE);
        for (int what : new int[] {-1, 18, Integer.MIN_VALUE, Integer.MAX_VALUE}) {
            Check.due("size(" + what + ")", x.size(what), -1);
            Check.due("size(" + what + ") without a house", none.size(what), -1);
        }
        Check.holds(55, "0 apart, 1 motor, 2 leader, 3 burns, 4 trim, 5 mend, 6 reels, 7 towns, 8 marks, 9 joins NOW, 10 weak places told, 11 men, 12 places, 13 SIGNS, 14 scratches,"
                + " 15 ACTS that can be undone, 16 IMAGES, 17 bytes of THE TAPE.");
        x.feed(0, 0, 0, 0, 0);
        x.mend(0);
        x.image();
        long[] due = {10, 4, 6, 200, 30, 25, 3, 2, 3, 3, 1, 4, 3, 2, 2, 1, 1, 20};
        for (int what = 0; what < due.length; what++) {
            Check.due("size(" + what + ")", x.size(what), due[what]);
        }
    }
}

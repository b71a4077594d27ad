import java.util.NoSuchElementException;

/** Promises 48 to 56: acts, undoing, images, what is told. */
public final class ActsTest {
    public static void main(String[] args) {
        threads();
        trim();
        mend();
        mendAtTheEdges();
        undo();
        images();
        led();
        size();
        trouble();
        Check.end("ActsTest");
    }

    private static void refused(ReelChange x, String call, boolean got, int trouble) {
        Check.due(call, got, false);
        Check.due(call + " trouble", x.trouble(), trouble);
        x.fits();
    }

    private static void refused(ReelChange x, String call, int got, int trouble) {
        Check.due(call, got, -1);
        Check.due(call + " trouble", x.trouble(), trouble);
        x.fits();
    }

    private static void threads() {
        ReelChange none = new ReelChange();
        refused(none, "threads without a house", none.threads(0, 1), 1);
        ReelChange x = Check.open(Houses.THREE);
        refused(x, "threads(3, 1)", x.threads(3, 1), 1);
        refused(x, "threads(-1, 200)", x.threads(-1, 200), 1);
        refused(x, "threads(0, 200)", x.threads(0, 200), 2);
        refused(x, "threads(0, -1)", x.threads(0, -1), 2);
        refused(x, "threads(0, 6)", x.threads(0, 6), 5);
        Check.due("threads(1, 199)", x.threads(1, 199), true);
        Check.due("trouble", x.trouble(), 0);
        Check.row("thread", new long[] {x.thread(0), x.thread(1), x.thread(2), x.black(0, 1)}, 6, 199, 6, 193);
        refused(x, "threads(1, 199)", x.threads(1, 199), 5);
        Check.due("threads(1, 0)", x.threads(1, 0), true);
        Check.row("thread", new long[] {x.thread(1), x.lost(0, 1), x.size(15)}, 0, 6, 2);
    }

    private static void trim() {
        ReelChange none = new ReelChange();
        refused(none, "trim without a house", none.trim(0, true), 1);
        ReelChange x = Check.open(Houses.THREE.replace("burns 200", "burns 99"));
        refused(x, "trim(3)", x.trim(3, true), 1);
        refused(x, "trim(-1)", x.trim(-1, false), 1);
        refused(x, "trim(2, false)", x.trim(2, false), 5);
        Check.due("it dies", x.dies(0, 2), 1);
        Check.due("trim(2, true)", x.trim(2, true), true);
        Check.due("trouble", x.trouble(), 0);
        Check.due("it doesn't", x.dies(0, 2), 0);
        refused(x, "trim(2, true)", x.trim(2, true), 5);
        Check.due("trim(2, false)", x.trim(2, false), true);
        Check.due("it dies again", x.dies(0, 2), 1);
        Check.due("acts", x.size(15), 2);
    }

    private static void mend() {
        ReelChange x = Check.open(Houses.THREE);
        refused(x, "mend(1)", x.mend(1), 1);
        refused(x, "mend(-1)", x.mend(-1), 1);
        Check.due("mend(0)", x.mend(0), 48);
        Check.due("trouble", x.trouble(), 0);
        Check.row("reel", new long[] {x.reel(1, 0), x.reel(1, 1), x.reel(1, 2), x.reel(1, 3), x.reel(1, 4), x.reel(1, 5)}, 48, 28, 50, 1, 1, 0);
        Check.row("mark, joins, weak places told", new long[] {x.mark(1, 0), x.size(9), x.size(10)}, 33, 3, 1);
        Check.row("missing", new long[] {x.missing(1, false), x.missing(1, true), x.words(1)}, 2, 0, 0);
        Check.row("the other reels stay", new long[] {x.reel(0, 0), x.reel(2, 0), x.mark(0, 0)}, 60, 40, 42);
        Check.row("the scratch stays, FIRST doesn't", new long[] {x.who(0), x.far(0)}, 0, 1);
        refused(x, "mend(0)", x.mend(0), 5);
        ReelChange none = new ReelChange();
        refused(none, "mend without a house", none.mend(0), 1);
    }

    private static void mendAtTheEdges() {
        String start = "house apart 1 motor 0 leader 0 burns 1 trim 0 mend 0;town t trust 5;town u trust 5";
        String end = ";man m clean slip 0;shows a,a";
        ReelChange x = Check.open(start + ";reel a frames 9 first 8 whole 9;mark a 7 by t;mark a 2 by u"
                + ";weak a 2 snaps 1;weak a 0 snaps 1;weak a 8 snaps 1" + end);
        Check.due("mend(0) at 2", x.mend(0), 7);
        Check.row("FIRST 8 to 6, marks 7 to 5 and 2 to 0", new long[] {x.reel(0, 1), x.mark(0, 0), x.mark(0, 1)}, 6, 5, 0);
        Check.due("mend(2), at 6 now, the last", x.mend(2), 5);
        Check.row("FIRST 6 to 4, mark 5 beyond the last frame to 4", new long[] {x.reel(0, 1), x.mark(0, 0), x.mark(0, 1)}, 4, 4, 0);
        refused(x, "mend(1) of 5 frames", x.mend(1), 5);
        Check.row("it is weak still", new long[] {x.led(0), x.reel(0, 5), x.reel(0, 4)}, 1, 1, 2);
        ReelChange y = Check.open(start + ";reel a frames 6 first 1 whole 6;mark a 0 by t;weak a 1 snaps 1" + end);
        Check.due("mend of 6 frames", y.mend(0), 4);
        Check.row("FIRST at 1 to 0, the mark ahead stays", new long[] {y.reel(0, 1), y.mark(0, 0)}, 0, 0);
        ReelChange z = Check.open(start + ";reel a frames 9 first 4 whole 9;mark a 8 by t;weak a 5 snaps 1;weak a 6 snaps 1" + end);
        z.mend(0);
        Check.row("FIRST ahead of it stays, the mark comes sooner", new long[] {z.reel(0, 1), z.mark(0, 0)}, 4, 6);
        z.mend(1);
        Check.row("the other weak place came to 4: FIRST at it comes sooner, too", new long[] {z.reel(0, 1), z.mark(0, 0), z.reel(0, 0)}, 2, 4, 5);
    }

    private static void undo() {
        ReelChange none = new ReelChange();
        refused(none, "undo without a house", none.undo(), 6);
        ReelChange x = Check.open(Houses.THREE);
        refused(x, "undo", x.undo(), 6);
        x.mend(0);
        x.trim(1, true);
        x.threads(0, 9);
        refused(x, "threads(0, 9)", x.threads(0, 9), 5);
        Check.due("what is refused can't be undone", x.size(15), 3);
        Check.due("undo the thread", x.undo(), true);
        Check.row("thread", new long[] {x.thread(0), x.size(15), x.reel(1, 0)}, 6, 2, 48);
        Check.due("undo the trim", x.undo(), true);
        refused(x, "trim(1, false)", x.trim(1, false), 5);
        Check.due("undo the mending", x.undo(), true);
        Check.due("trouble", x.trouble(), 0);
        Check.row("as it was", new long[] {x.reel(1, 0), x.reel(1, 1), x.mark(1, 0), x.reel(1, 4), x.reel(1, 5), x.led(0), x.size(9)}, 50, 30, 35, 0, 1, 0, 2);
        refused(x, "undo", x.undo(), 6);
        for (int i = 0; i < 15; i++) {
            x.threads(1, 100 + i);
        }
        Check.due("12 are kept", x.size(15), 12);
        for (int i = 0; i < 12; i++) {
            Check.due("undo " + i, x.undo(), true);
        }
        Check.due("the thirteenth isn't undone", x.undo(), false);
        Check.due("thread", x.thread(1), 102);
    }

    private static void images() {
        ReelChange none = new ReelChange();
        refused(none, "image without a house", none.image(), 1);
        refused(none, "back without a house", none.back(0), 1);
        ReelChange x = Check.open(Houses.THREE);
        refused(x, "back(0)", x.back(0), 1);
        x.threads(0, 1);
        Check.due("image", x.image(), 0);
        Check.due("acts stay", x.size(15), 1);
        x.mend(0);
        x.trim(2, true);
        Check.due("image", x.image(), 1);
        x.threads(2, 50);
        Check.due("image", x.image(), 2);
        refused(x, "a fourth image", x.image(), 3);
        refused(x, "back(3)", x.back(3), 1);
        refused(x, "back(-1)", x.back(-1), 1);
        Check.due("what is refused leaves the acts", x.size(15), 4);
        Check.due("back(0)", x.back(0), true);
        Check.due("trouble", x.trouble(), 0);
        Check.row("as by the first", new long[] {x.thread(0), x.thread(2), x.reel(1, 0), x.size(9), x.size(15), x.size(16)}, 1, 6, 50, 2, 0, 3);
        refused(x, "trim(2, false)", x.trim(2, false), 5);
        refused(x, "undo", x.undo(), 6);
        x.threads(0, 77);
        Check.due("back(1)", x.back(1), true);
        Check.row("as by the second", new long[] {x.thread(0), x.thread(2), x.reel(1, 0), x.size(15)}, 1, 6, 48, 0);
        refused(x, "trim(2, true)", x.trim(2, true), 5);
        Check.due("back(2)", x.back(2), true);
        Check.due("thread", x.thread(2), 50);
        Check.due("an act", x.threads(2, 51), true);
        Check.due("undo", x.undo(), true);
        Check.due("the image stays", x.thread(2), 50);
    }

    private static boolean ledThrows(ReelChange x, int i) {
        try {
            x.led(i);
            return false;
        } catch (NoSuchElementException e) {
            return true;
        }
    }

    private static void led() {
        ReelChange x = Check.open(Houses.THREE + ";weak one 1 snaps 1;weak end 1 snaps 1");
        Check.row("led", new long[] {x.led(0), x.led(1), x.led(2)}, 0, 1, 2);
        Check.due("led(3)", ledThrows(x, 3), true);
        Check.due("led(-1)", ledThrows(x, -1), true);
        x.mend(1);
        Check.row("led", new long[] {x.led(0), x.led(1)}, 0, 2);
        Check.due("led(2)", ledThrows(x, 2), true);
        x.reel(9, 9);
        Check.due("led(0)", x.led(0), 0);
        Check.due("led is no call that may be refused", x.trouble(), 1);
        Check.due("without a house", ledThrows(new ReelChange(), 0), true);
    }

    private static void size() {
        ReelChange x = Check.open(Houses.THREE);
        long[] due = {10, 4, 6, 200, 30, 25, 3, 2, 3, 2, 1, 4, 3, 2, 2, 0, 0, 0};
        for (int what = 0; what < due.length; what++) {
            Check.due("size(" + what + ")", x.size(what), due[what]);
        }
        Check.row("others", new long[] {x.size(-1), x.size(18), x.size(Integer.MIN_VALUE), x.size(Integer.MAX_VALUE)}, -1, -1, -1, -1);
        x.reel(9, 9);
        x.size(99);
        Check.due("size is no call that may be refused", x.trouble(), 1);
        x.feed(0, 0, 0, 0, 0);
        Check.due("tape", x.size(17), 20);
    }

    private static void trouble() {
        ReelChange x = new ReelChange();
        Check.due("at first", x.trouble(), 0);
        x.undo();
        Check.due("6", x.trouble(), 6);
        Check.due("asked again", x.trouble(), 6);
        x.fault();
        x.where();
        x.feed(0, 0, 0, 0, 0);
        Check.due("calls without a number leave it", x.trouble(), 6);
        x.house(-1);
        Check.due("2", x.trouble(), 2);
        x.house(20);
        Check.due("4", x.trouble(), 4);
        Check.due("where", x.where(), 0);
        x.undo();
        Check.due("where behind another refusal", x.where(), -1);
        Check.house(x, Houses.THREE);
        Check.due("0", x.trouble(), 0);
    }
}

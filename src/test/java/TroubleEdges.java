import java.util.LinkedHashMap;
import java.util.Map;
import java.util.NoSuchElementException;
import java.util.function.ToLongFunction;

/** Edges of promise 56: TROUBLE of every call that may be refused, and of those that may not. */
final class TroubleEdges {
    private TroubleEdges() {
    }

    static void all() {
        constant();
        withoutHouse();
        withHouse();
        leftAsItIs();
        numbers();
    }

    /** Every call that may be refused but house and undo, such that it isn't refused in the HOUSE of three reels. */
    private static Map<String, ToLongFunction<ReelChange>> calls() {
        Map<String, ToLongFunction<ReelChange>> calls = new LinkedHashMap<>();
        calls.put("reel", x -> x.reel(0, 0));
        calls.put("mark", x -> x.mark(0, 0));
        calls.put("shows", x -> x.shows(0));
        calls.put("thread", x -> x.thread(0));
        calls.put("believes", x -> x.believes(0, 0));
        calls.put("starts", x -> x.starts(0, 0));
        calls.put("changes", x -> x.changes(0, 0));
        calls.put("lost", x -> x.lost(0, 0));
        calls.put("black", x -> x.black(0, 0));
        calls.put("tail", x -> x.tail(0, 0));
        calls.put("begins", x -> x.begins(0, 0));
        calls.put("length", x -> x.length(0));
        calls.put("all", x -> x.all(0, 0));
        calls.put("worst", x -> x.worst(0));
        calls.put("exact", x -> x.exact(0, 1));
        calls.put("signs", x -> x.signs(0));
        calls.put("fits", ReelChange::fits);
        calls.put("bestSlip", x -> x.bestSlip(0));
        calls.put("bySlip", x -> x.bySlip(0));
        calls.put("needs", x -> x.needs(0, 0));
        calls.put("dies", x -> x.dies(0, 0));
        calls.put("firstDies", x -> x.firstDies(0));
        calls.put("free", x -> x.free(0, 0));
        calls.put("arc", x -> x.arc(0, 0));
        calls.put("never", x -> x.never(0));
        calls.put("truly", x -> x.truly(0, 40, true));
        calls.put("likeliest", x -> x.likeliest(0));
        calls.put("who", x -> x.who(0));
        calls.put("far", x -> x.far(0));
        calls.put("missing", x -> x.missing(0, true));
        calls.put("words", x -> x.words(0));
        calls.put("holds", x -> x.holds(0, 0, true));
        calls.put("pays", x -> x.pays(0, 0));
        calls.put("wears", x -> x.wears(0, 0, true));
        calls.put("apart", x -> x.apart(0, 0));
        calls.put("waits", x -> x.waits(0, 0, 0));
        calls.put("boys", x -> x.boys(0));
        calls.put("well", x -> x.well(true));
        calls.put("wrong", ReelChange::wrong);
        calls.put("exchanges", ReelChange::exchanges);
        calls.put("dark", x -> x.dark(0, 0));
        calls.put("bestMan", x -> x.bestMan(0, 1));
        calls.put("threads", x -> x.threads(0, 1) ? 1 : -1);
        calls.put("trim", x -> x.trim(0, true) ? 1 : -1);
        calls.put("mend", x -> x.mend(0));
        calls.put("image", ReelChange::image);
        calls.put("back", x -> x.back(0) ? 1 : -1);
        return calls;
    }

    private static void constant() {
        Check.holds(56, "`NONE = -1`: There is none; refused.");
        Check.due("NONE", ReelChange.NONE, -1);
    }

    private static void withoutHouse() {
        Check.holds(56, "1 there is none such");
        for (Map.Entry<String, ToLongFunction<ReelChange>> call : calls().entrySet()) {
            ReelChange x = new ReelChange();
            Check.house(x, " .");
            Check.row("ahead of " + call.getKey(), new long[] {x.trouble(), x.where()}, 4, 1);
            Check.row(call.getKey() + " without a house", new long[] {call.getValue().applyAsLong(x), x.trouble(), x.where(), x.fault()}, -1, 1, -1, 1);
        }
    }

    private static void withHouse() {
        Check.holds(56, "0 it wasn't");
        for (Map.Entry<String, ToLongFunction<ReelChange>> call : calls().entrySet()) {
            ReelChange x = Check.open(Houses.THREE);
            x.image();
            Check.house(x, " .");
            Check.row("ahead of " + call.getKey(), new long[] {x.trouble(), x.where()}, 4, 1);
            Check.due(call.getKey() + " isn't refused", call.getValue().applyAsLong(x) != -1, true);
            Check.row("behind " + call.getKey(), new long[] {x.trouble(), x.where(), x.fault()}, 0, -1, 1);
        }
    }

    private static void leftAsItIs() {
        Check.holds(56, "TROUBLE of the latest call that may be refused (those of which a number is told here)");
        ReelChange x = Check.open(Houses.THREE);
        for (int i = 0; i < 45; i++) {
            x.feed(0, 0, 0, 0, 0);
        }
        x.undo();
        Check.row("feed, refused or not", new long[] {x.feed(0, 0, 0, 0, 0), x.trouble()}, -1, 6);
        Check.row("size", new long[] {x.size(18), x.trouble(), x.size(0), x.trouble()}, -1, 6, 10, 6);
        Check.row("fault, where, trouble", new long[] {x.fault(), x.where(), x.trouble(), x.trouble()}, 0, -1, 6, 6);
        Check.row("led", new long[] {x.led(0), x.trouble()}, 0, 6);
        try {
            x.led(1);
        } catch (NoSuchElementException e) {
            Check.due("led that throws", x.trouble(), 6);
        }
        x.house(0);
        Check.row("a tape that was full", new long[] {x.trouble(), x.feed(0, 0, 0, 0, 0), x.trouble()}, 4, 20, 4);
    }

    private static void numbers() {
        Check.holds(56, "0 it wasn't; 1 there is none such; 2 a number; 3 no room; 4 a FAULT; 5 not so; 6 there is none.");
        ReelChange x = new ReelChange();
        Check.due("of a new object", x.trouble(), 0);
        x.undo();
        Check.due("6", x.trouble(), 6);
        x.house(1);
        Check.due("2", x.trouble(), 2);
        x.house(0);
        Check.due("4", x.trouble(), 4);
        Check.house(x, Houses.THREE);
        Check.due("0", x.trouble(), 0);
        x.shows(9);
        Check.due("1", x.trouble(), 1);
        x.image();
        x.image();
        x.image();
        Check.due("0", x.trouble(), 0);
        x.image();
        Check.due("3", x.trouble(), 3);
        x.trim(0, false);
        Check.due("5", x.trouble(), 5);
        x.trim(0, true);
        Check.due("0", x.trouble(), 0);
        x.undo();
        Check.due("0", x.trouble(), 0);
    }
}

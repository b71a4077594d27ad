import java.util.ArrayList;
import java.util.List;
import java.util.NoSuchElementException;

/** Edges of promises 1 to 5: a new object, THE TAPE, house, fault, where. */
final class TapeEdges {
    private TapeEdges() {
    }

    static void all() {
        newObject();
        tape();
        bytes();
        wholeTape();
        numberOfBytes();
        newHouse();
        nothingIsLeft();
        houseStays();
        fault();
        where();
    }

    private static void newObject() {
        Check.holds(1, "`ReelChange()`: No HOUSE.");
        ReelChange x = new ReelChange();
        Check.row("of a new object", new long[] {x.fault(), x.where(), x.trouble(), x.size(12), x.size(17), x.size(15), x.size(16)}, 0, -1, 0, 0, 0, 0, 0);
        Check.row("there is none", new long[] {x.reel(0, 0), x.mark(0, 0), x.shows(0), x.thread(0), x.fits(), x.wrong(), x.exchanges(), x.image()},
                -1, -1, -1, -1, -1, -1, -1, -1);
        Check.due("trouble", x.trouble(), 1);
        ReelChange other = Check.open(Texts.GOOD);
        Check.row("objects are apart", new long[] {other.size(12), x.size(12), new ReelChange().size(12)}, 2, 0, 0);
    }

    private static void tape() {
        Check.holds(2, "NONE, and none comes, if there would be more than 900.");
        ReelChange x = new ReelChange();
        for (int i = 1; i <= 44; i++) {
            Check.due("feed " + i, x.feed(0x20202020, 0x20202020, 0x20202020, 0x20202020, 0x20202020), 20 * i);
        }
        Check.row("880, then just 900, then no more", new long[] {x.size(17), x.feed(0x20202020, 0, 0, 0, 0), x.size(17), x.feed(0, 0, 0, 0, 0), x.size(17),
            x.feed(-1, -1, -1, -1, -1), x.size(17)}, 880, 900, 900, -1, 900, -1, 900);
        Check.row("none came: the first 884 are blanks still", new long[] {x.house(884), x.fault(), x.where()}, -1, 1, 884);
        Check.due("there is room again", x.feed(0, 0, 0, 0, 0), 20);
        Check.holds(2, "how many it has");
        Check.due("the next twenty", x.feed(0, 0, 0, 0, 0), 40);
    }

    private static void bytes() {
        Check.holds(2, "Twenty bytes come behind THE TAPE, of each number the highest first");
        // a byte that begins no TOKEN behind so many blanks is told by its place
        for (int at = 0; at < 20; at++) {
            for (int sign : new int[] {0, 1, 127, 128, 255}) {
                int[] five = {0x20202020, 0x20202020, 0x20202020, 0x20202020, 0x20202020};
                int shift = 24 - 8 * (at % 4);
                five[at / 4] = five[at / 4] & ~(255 << shift) | sign << shift;
                ReelChange x = new ReelChange();
                x.feed(five[0], five[1], five[2], five[3], five[4]);
                Check.row("byte " + sign + " at " + at, new long[] {x.house(20), x.fault(), x.where()}, -1, 1, at);
            }
        }
        ReelChange x = new ReelChange();
        x.feed(0x20202020, 0x20202020, 0x20202020, 0x20202020, 0x20202020);
        x.feed(0x20202020, 0x20200020, 0x20202020, 0x20202020, 0x20202020);
        Check.row("behind, not ahead", new long[] {x.house(40), x.where()}, -1, 26);
    }

    /** 900 bytes: all of the tape is a HOUSE, its last byte, too. */
    private static void wholeTape() {
        Check.holds(2, "THE TAPE has 900 bytes");
        String end = ";shows a,b;man zz early slip 7";
        String text = Texts.TOWN + " ".repeat(900 - Texts.TOWN.length() - end.length()) + end;
        ReelChange x = Texts.fine(2, text);
        Check.due("the slip is the last byte", x.starts(0, 0), 7);
        ReelChange y = new ReelChange();
        Check.feed(y, text);
        Check.row("one byte fewer lacks it", new long[] {y.house(899), y.fault(), y.where()}, -1, 1, 899);
        ReelChange spoilt = new ReelChange();
        Check.feed(spoilt, text.substring(0, 899) + ".");
        Check.row("the last byte is looked at", new long[] {spoilt.house(900), spoilt.fault(), spoilt.where()}, -1, 1, 899);
        ReelChange unlooked = new ReelChange();
        Check.feed(unlooked, text.substring(0, 898) + " .");
        Check.row("or isn't", new long[] {unlooked.house(899), unlooked.fault(), unlooked.where()}, -1, 1, 899);
    }

    private static void numberOfBytes() {
        Check.holds(3, "NONE: 2 (THE TAPE stays)");
        ReelChange x = new ReelChange();
        Check.row("an empty tape has no byte", new long[] {x.house(1), x.trouble(), x.house(-1), x.trouble()}, -1, 2, -1, 2);
        String text = Texts.GOOD + " ".repeat(20 - Texts.GOOD.length() % 20);
        Check.feed(x, text);
        int all = text.length();
        for (int n : new int[] {-1, all + 1, Integer.MIN_VALUE, Integer.MAX_VALUE, 900, 901, -all}) {
            Check.row("house(" + n + ") of " + all + " bytes", new long[] {x.house(n), x.trouble(), x.size(17), x.fault(), x.where()}, -1, 2, all, 0, -1);
        }
        Check.row("all bytes; the tape stayed as it was", new long[] {x.house(all), x.trouble(), x.size(17)}, 2, 0, 0);
        Check.holds(3, "The first n bytes of THE TAPE (it is empty then) are the HOUSE from now on");
        Check.row("it is empty now", new long[] {x.house(1), x.trouble(), x.house(all), x.trouble()}, -1, 2, -1, 2);
        Check.feed(x, Texts.GOOD + ",a,b,a,b");
        Check.row("not those behind n", new long[] {x.house(Texts.GOOD.length() + 4), x.size(12), x.size(17), x.shows(3)}, 4, 4, 0, 1);
        Check.feed(x, Texts.GOOD + ";;;");
        Check.row("nor their FAULTS", new long[] {x.house(Texts.GOOD.length()), x.size(17)}, 2, 0);
        Check.feed(x, Texts.GOOD);
        Check.row("none of them: the end is at 0", new long[] {x.house(0), x.trouble(), x.fault(), x.where(), x.size(17), x.size(12)}, -1, 4, 1, 0, 0, 2);
        Check.feed(x, Texts.GOOD);
        Check.row("one of them", new long[] {x.house(1), x.trouble(), x.fault(), x.where(), x.size(17)}, -1, 4, 1, 0, 0);
        Check.feed(x, Texts.GOOD);
        Check.row("fed anew from its beginning", new long[] {x.house(Texts.GOOD.length()), x.trouble()}, 2, 0);
        Check.holds(3, "how many places");
        Check.row("2 .. 8", new long[] {Check.house(x, Texts.MAN + ";shows a,a"), Check.house(x, Texts.MAN + ";shows a,a,a,a,a,a,a"),
            Check.house(x, Texts.MAN + ";shows a,a,a,a,a,a,a,b")}, 2, 7, 8);
    }

    private static void newHouse() {
        Check.holds(3, "(THREADS by leader, no TRIMS, nothing MENDED; nothing to undo, no IMAGES)");
        String text = Texts.GOOD.replace("leader 0", "leader 7") + ";weak a 3 snaps 5";
        ReelChange x = Check.open(text);
        x.threads(0, 1);
        x.threads(1, 2);
        x.trim(0, true);
        x.trim(1, true);
        x.mend(0);
        x.image();
        Check.row("ahead of it", new long[] {x.thread(0), x.thread(1), x.reel(0, 0), x.size(9), x.size(15), x.size(16)}, 1, 2, 7, 1, 5, 1);
        Check.due("the same house anew", Check.house(x, text), 2);
        Check.row("threads, frames, joins, acts, images", new long[] {x.thread(0), x.thread(1), x.reel(0, 0), x.reel(0, 5), x.size(9), x.led(0), x.size(15), x.size(16)},
                7, 7, 9, 1, 0, 0, 0, 0);
        Check.due("no trim at 0", x.trim(0, false), false);
        Check.due("no trim at 1", x.trim(1, false), false);
        Check.due("nothing to undo", x.undo(), false);
        Check.due("no image", x.back(0), false);
        Check.due("the first image is 0 again", x.image(), 0);
        Check.due("a smaller house", Check.house(x, Texts.HOUSE + ";reel q frames 5 first 4 whole 6;man z late slip 0;shows q,q"), 2);
        Check.row("nothing is left of the one before", new long[] {x.size(6), x.size(7), x.size(10), x.size(11), x.reel(0, 0), x.reel(1, 0), x.mark(0, 0)},
                1, 0, 0, 1, 5, -1, -1);
    }

    /** A small HOUSE behind one with all that there may be answers as it does on a new object. */
    private static void nothingIsLeft() {
        Check.holds(3, "are the HOUSE from now on");
        String full = "house apart50motor50leader99burns9999trim999mend999" + Texts.times(";reel # frames900first9whole999", 8)
                + Texts.times(";town # trust9", 4, 'i') + Texts.times(";mark h5by #", 4, 'i') + Texts.times(";mark a7by #", 4, 'i') + Texts.times(";join a8lacks99", 8)
                + Texts.times(";weak a@snaps99", 6) + Texts.times(";man # late slip40", 4, 'm') + ";shows h,g,f,e,d,c,b,a;boys4ride2000falls50"
                + Texts.times(";seen7black9lost9", 6) + Texts.times(";scratch h9", 1);
        String small = Texts.HOUSE.replace("mend 0", "mend 9") + ";reel a frames 30 first 12 whole 40;reel b frames 20 first 3 whole 30;town t trust 5;mark b 4 by t;join a 1 lacks 2"
                + ";weak b 7 snaps 30;man m clean slip 3;shows b,a,b;seen 1 black 0 lost 1;scratch a 4";
        ReelChange x = Check.open(full);
        x.threads(2, 0);
        x.trim(3, true);
        x.mend(5);
        x.image();
        answers(x);
        Check.house(x, small);
        long[] due = answers(Check.open(small));
        Check.row("behind a full house", answers(x), due);
        Check.row("with boys told, not as many", answers(reopened(x, small + ";boys 2 ride 3 falls 4")), answers(Check.open(small + ";boys 2 ride 3 falls 4")));
        Check.row("without", answers(reopened(x, small)), due);
        Check.row("behind a house with a FAULT at its end", answers(reopened(reopened(x, full + ";"), small)), due);
    }

    private static ReelChange reopened(ReelChange x, String text) {
        Check.house(x, text);
        return x;
    }

    /** What all calls tell that change nothing. */
    private static long[] answers(ReelChange x) {
        List<Long> all = new ArrayList<>();
        for (int a = 0; a <= 17; a++) {
            all.add((long) x.size(a));
        }
        for (int a = -1; a <= 8; a++) {
            for (int b = -1; b <= 8; b++) {
                for (int answer : new int[] {x.reel(a, b), x.mark(a, b), x.believes(a, b), x.starts(a, b), x.changes(a, b), x.lost(a, b), x.black(a, b), x.tail(a, b), x.begins(a, b),
                    x.all(a, b), x.exact(a, b), x.needs(a, b), x.dies(a, b), x.free(a, b), x.arc(a, b), x.pays(a, b), x.apart(a, b), x.waits(a, b, 9), x.dark(a, b), x.trouble()}) {
                    all.add((long) answer);
                }
                all.add(x.truly(a, b, true));
                all.add(x.holds(a, b, false));
                all.add(x.wears(a, b, true));
            }
            for (int answer : new int[] {x.shows(a), x.thread(a), x.length(a), x.worst(a), x.signs(a), x.bestSlip(a), x.bySlip(a), x.firstDies(a), x.never(a), x.likeliest(a), x.who(a),
                x.far(a), x.missing(a, false), x.missing(a, true), x.words(a), x.boys(a), x.bestMan(a, 3)}) {
                all.add((long) answer);
            }
        }
        for (long answer : new long[] {x.fits(), x.well(false), x.well(true), x.wrong(), x.exchanges(), x.trouble(), x.fault(), x.where()}) {
            all.add(answer);
        }
        return all.stream().mapToLong(Long::longValue).toArray();
    }

    private static void houseStays() {
        Check.holds(3, "4 (the HOUSE stays)");
        ReelChange x = Check.open(Texts.GOOD + ";weak a 3 snaps 5;mark b 4 by t;join b 1 lacks 7;boys 2 ride 3 falls 4;seen 1 black 0 lost 0;scratch a 2");
        x.threads(1, 9);
        x.mend(0);
        x.image();
        String spoilt = "house apart 9 motor 9 leader 9 burns 9 trim 9 mend 9;reel z frames 99 first 9 whole 99;town y trust 1;man w late slip 40"
                + ";mark z 9 by y;join z 9 lacks 9;weak z 9 snaps 9;shows z,z,z;boys 4 ride 9 falls 9;seen 2 black 9 lost 9;scratch z 9";
        Check.row("a house with a FAULT at its end", new long[] {Check.house(x, spoilt + ";boys 1"), x.trouble(), x.fault()}, -1, 4, 3);
        long[] sizes = new long[18];
        for (int what = 0; what < 18; what++) {
            sizes[what] = x.size(what);
        }
        Check.row("sizes stay", sizes, 1, 0, 0, 1, 0, 0, 2, 1, 1, 2, 1, 1, 2, 1, 1, 2, 1, 0);
        Check.row("all else stays", new long[] {x.reel(0, 0), x.reel(1, 0), x.mark(1, 0), x.thread(1), x.shows(1), x.starts(0, 0), x.well(true)},
                7, 9, 4, 9, 1, 0, 625);
        Check.row("acts are undone", new long[] {x.undo() ? 1 : 0, x.reel(0, 0), x.undo() ? 1 : 0, x.thread(1), x.undo() ? 1 : 0}, 1, 9, 1, 0, 0);
        Check.row("the image is there", new long[] {x.back(0) ? 1 : 0, x.reel(0, 0), x.thread(1)}, 1, 7, 9);
    }

    private static void fault() {
        Check.holds(4, "The FAULT of the latest house() not refused by 2; 0 without one.");
        ReelChange x = new ReelChange();
        Check.due("without any", x.fault(), 0);
        x.house(1);
        Check.due("only one that is refused by 2", x.fault(), 0);
        String[] faults = {"house", "house apart 1 motor 0 leader 0 burns 1 trim 0 mend 0;join a", Texts.GOOD + ";reel a", "house apart 0",
            Texts.MAN + ";shows a,a,a,a,a,a,a,a,a", Texts.MAN};
        for (int number = 1; number <= 6; number++) {
            Check.row("FAULT " + number, new long[] {Check.house(x, faults[number - 1]), x.trouble(), x.fault()}, -1, 4, number);
            x.house(-1);
            Check.due("behind one refused by 2", x.fault(), number);
            x.fits();
            x.feed(0, 0, 0, 0, 0);
            Check.due("behind other calls", x.fault(), number);
            x.house(20);
        }
        Check.row("then one without", new long[] {Check.house(x, Texts.GOOD), x.fault(), x.house(9), x.fault()}, 2, 0, -1, 0);
        Check.row("then one with", new long[] {Check.house(x, "house"), x.fault(), Check.house(x, Texts.GOOD), x.fault()}, -1, 1, 2, 0);
    }

    private static void where() {
        Check.holds(5, "Its place, if the latest call that may be refused was by 4; NONE else.");
        ReelChange x = new ReelChange();
        Check.due("no call", x.where(), -1);
        Check.row("at 0", new long[] {Check.house(x, "."), x.where(), x.where()}, -1, 0, 0);
        Check.row("at the end of 900", new long[] {Check.house(x, " ".repeat(900)), x.where()}, -1, 900);
        x.fault();
        x.size(0);
        x.size(99);
        x.trouble();
        x.feed(0, 0, 0, 0, 0);
        try {
            x.led(0);
        } catch (NoSuchElementException e) {
            Check.due("where behind led", x.where(), 900);
        }
        Check.due("calls that aren't refused by a number leave it", x.where(), 900);
        x.house(-1);
        Check.row("refused by 2", new long[] {x.where(), x.fault()}, -1, 1);
        Check.row("refused by 4 again", new long[] {x.house(20), x.where()}, -1, 0);
        x.undo();
        Check.due("refused by 6", x.where(), -1);
        Check.house(x, " .");
        Check.due("at 1", x.where(), 1);
        x.fits();
        Check.due("refused by 1", x.where(), -1);
        Check.row("not refused", new long[] {Check.house(x, Texts.GOOD), x.where()}, 2, -1);
        Check.row("refused by 4, then a call that isn't", new long[] {Check.house(x, "  ."), x.where(), x.fits(), x.where()}, -1, 2, 1, -1);
    }
}

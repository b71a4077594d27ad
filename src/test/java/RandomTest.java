import java.util.ArrayDeque;
import java.util.ArrayList;
import java.util.List;
import java.util.Map;
import java.util.NoSuchElementException;
import java.util.Random;

/** Houses at random, with acts at random: every answer against the slow house's. */
public final class RandomTest {
    private static final int HOUSES = 400;
    private static final int HOUSES_OF_ONE = 3;
    private static final int CALLS = 150;

    private final Random random;
    private final ReelChange x = new ReelChange();
    private final List<SlowHouse> images = new ArrayList<>();
    private final ArrayDeque<SlowHouse> undos = new ArrayDeque<>();
    private SlowHouse slow;
    private String about;

    private RandomTest(Random random) {
        this.random = random;
    }

    public static void main(String[] args) {
        for (int i = 0; i < HOUSES; i++) {
            new RandomTest(new Random(1000 + i)).run(i);
        }
        Check.end("RandomTest");
    }

    /** Several HOUSES on one object, one behind the other: nothing of the one before may be left. */
    private void run(int number) {
        for (int part = 0; part < HOUSES_OF_ONE; part++) {
            slow = SlowHouse.any(random);
            while (slow.text().length() > 900) {
                slow = SlowHouse.any(random);
            }
            images.clear();
            undos.clear();
            about = "house " + number + ", " + part + " ";
            due("house", Check.house(x, slow.text()), slow.shows.length);
            for (int i = 0; i < CALLS; i++) {
                someCalls();
            }
        }
    }

    private void someCalls() {
        switch (random.nextInt(8)) {
            case 0:
                act();
                break;
            case 1:
                print();
                break;
            case 2:
                chances();
                break;
            case 3:
                arcs();
                break;
            case 4:
                twoHouses();
                break;
            case 5:
                draws();
                break;
            default:
                night();
                break;
        }
    }

    private void due(String call, long got, long want) {
        Check.due(about + call, got, want);
    }

    private int anyPlace() {
        return random.nextInt(slow.shows.length);
    }

    private int anyMan() {
        return random.nextInt(slow.men.size());
    }

    private int anyReel() {
        return random.nextInt(slow.frames.length);
    }

    private void night() {
        int man = anyMan();
        int p = anyPlace();
        slow.night(man);
        String of = "(" + man + ", " + p + ")";
        switch (random.nextInt(9)) {
            case 0:
                due("believes" + of, x.believes(man, p), slow.believes(man, p));
                due("starts" + of, x.starts(man, p), slow.starts[p]);
                break;
            case 1:
                due("changes" + of, x.changes(man, p), slow.changes[p]);
                due("lost" + of, x.lost(man, p), slow.lost[p]);
                break;
            case 2:
                due("black" + of, x.black(man, p), slow.black[p]);
                due("tail" + of, x.tail(man, p), slow.tail[p]);
                break;
            case 3:
                due("begins" + of, x.begins(man, p), slow.begins[p]);
                due("length(" + man + ")", x.length(man), slow.left[slow.shows.length - 1]);
                break;
            case 4:
                int gone = 0;
                for (boolean is : slow.gone) {
                    gone += is ? 1 : 0;
                }
                Check.row(about + "all(" + man + ")",
                        new long[] {x.all(man, 0), x.all(man, 1), x.all(man, 2), x.all(man, 3)},
                        SlowHouse.sum(slow.lost), SlowHouse.sum(slow.black), SlowHouse.sum(slow.tail), gone);
                break;
            case 5:
                due("worst(" + man + ")", x.worst(man), slow.worst());
                due("exact" + of, x.exact(man, p), p == 0 ? -1 : slow.exact(p));
                due("trouble", x.trouble(), p == 0 ? 1 : 0);
                break;
            case 6:
                signs(man);
                break;
            case 7:
                bestSlip(man);
                break;
            default:
                due("wrong()", x.wrong(), slow.wrong());
                due("exchanges()", x.exchanges(), slow.shows.length > 6 ? x.exchanges() : slow.exchanges());
                break;
        }
    }

    private void signs(int man) {
        due("signs(" + man + ")", x.signs(man), slow.signsSo());
        int fits = 0;
        for (int m = 0; m < slow.men.size(); m++) {
            slow.night(m);
            fits |= slow.signsSo() == (1 << slow.signs.size()) - 1 ? 1 << m : 0;
        }
        due("fits()", x.fits(), fits);
    }

    private void bestSlip(int man) {
        int best = 0;
        int least = Integer.MAX_VALUE;
        for (int slip = 40; slip >= 0; slip--) {
            slow.night(man, slip);
            if (slow.waste() <= least) {
                least = slow.waste();
                best = slip;
            }
        }
        due("bestSlip(" + man + ")", x.bestSlip(man), best);
        due("bySlip(" + man + ")", x.bySlip(man), least);
    }

    private void arcs() {
        int man = anyMan();
        int p = anyPlace();
        slow.night(man);
        int[] burnt = slow.burn(slow.trimmed);
        int dying = burnt[slow.shows.length];
        String of = "(" + man + ", " + p + ")";
        due("needs" + of, x.needs(man, p), slow.left[p] - slow.motorAt[p]);
        due("free" + of, x.free(man, p), slow.free(p));
        due("dies" + of, x.dies(man, p), dying >> p & 1);
        due("arc" + of, x.arc(man, p), burnt[p]);
        due("firstDies(" + man + ")", x.firstDies(man), dying == 0 ? -2 : Integer.numberOfTrailingZeros(dying));
        if (random.nextInt(4) == 0) {
            due("never(" + man + ")", x.never(man), slow.never());
        }
    }

    private void print() {
        int r = anyReel();
        int weak = 0;
        for (int w = 0; w < slow.weaks.size(); w++) {
            weak += slow.weaks.get(w)[0] == r && !slow.mended[w] ? 1 : 0;
        }
        Check.row(about + "reel(" + r + ")", new long[] {x.reel(r, 0), x.reel(r, 1), x.reel(r, 2), x.reel(r, 3), x.reel(r, 4), x.reel(r, 5)},
                slow.frames[r], slow.first[r], slow.whole[r], slow.count(slow.marks, r), slow.count(slow.joins, r), weak);
        for (int t = 0; t < slow.trust.length; t++) {
            due("mark(" + r + ", " + t + ")", x.mark(r, t), slow.markBy(r, t));
        }
        int p = anyPlace();
        due("shows", x.shows(p), slow.shows[p]);
        due("thread", x.thread(p), slow.thread[p]);
        due("size(9)", x.size(9), slow.joins.size());
        led();
    }

    private void led() {
        int i = 0;
        for (int w = 0; w < slow.weaks.size(); w++) {
            if (!slow.mended[w]) {
                due("led(" + i + ")", x.led(i), w);
                i++;
            }
        }
        boolean thrown = false;
        try {
            x.led(i);
        } catch (NoSuchElementException e) {
            thrown = true;
        }
        due("led(" + i + ") throws", thrown ? 1 : 0, 1);
    }

    private void chances() {
        int r = anyReel();
        Map<Integer, Integer> chances = slow.chances(r);
        int all = chances.values().stream().mapToInt(Integer::intValue).sum();
        for (int frame : chances.keySet()) {
            due("truly upper", x.truly(r, frame, false), SlowHouse.part(chances.get(frame), all, false));
            due("truly lower", x.truly(r, frame, true), SlowHouse.part(chances.get(frame), all, true));
        }
        due("likeliest(" + r + ")", x.likeliest(r), slow.likeliest(r));
        due("missing(" + r + ")", x.missing(r, false), slow.whole[r] - slow.frames[r]);
        due("untold(" + r + ")", x.missing(r, true), slow.untold(r));
        int words = 0;
        for (int[] join : slow.joins) {
            words += join[0] == r && join[2] >= 24 ? 1 : 0;
        }
        due("words(" + r + ")", x.words(r), words);
        if (!slow.scratches.isEmpty()) {
            int scratch = random.nextInt(slow.scratches.size());
            due("who(" + scratch + ")", x.who(scratch), slow.scratched(scratch)[0]);
            due("far(" + scratch + ")", x.far(scratch), slow.scratched(scratch)[1]);
        }
        weakPlaces(r);
    }

    private void weakPlaces(int r) {
        int n = random.nextInt(100);
        int snaps = 0;
        for (int w = 0; w < slow.weaks.size(); w++) {
            snaps += slow.weaks.get(w)[0] == r && !slow.mended[w] ? slow.weaks.get(w)[2] : 0;
        }
        due("wears upper", x.wears(r, n, false), SlowHouse.part(2L * n * snaps, 100, false));
        due("wears lower", x.wears(r, n, true), SlowHouse.part(2L * n * snaps, 100, true));
        for (int w = 0; w < slow.weaks.size(); w++) {
            int nights = random.nextInt(5);
            int holds = 100 - slow.weaks.get(w)[2];
            boolean is = !slow.mended[w];
            due("holds upper", x.holds(w, nights, false), is ? SlowHouse.power(holds, nights, false) : -1);
            due("holds lower", x.holds(w, nights, true), is ? SlowHouse.power(holds, nights, true) : -1);
            long all = (long) Math.pow(100, nights);
            long held = 1;
            for (int i = 0; i < nights; i++) {
                held *= holds;
            }
            due("pays", x.pays(w, nights), is ? (slow.mendTicks * (all - held) > 2 * all ? 1 : 0) : -1);
            due("trouble", x.trouble(), is ? 0 : 1);
        }
    }

    private void twoHouses() {
        int man = anyMan();
        int many = random.nextInt(5);
        int later = random.nextInt(1500);
        slow.night(man);
        if (slow.boys == null) {
            due("apart", x.apart(man, many), -1);
            due("trouble", x.trouble(), 6);
            due("waits", x.waits(man, 9, -1), -1);
            due("trouble", x.trouble(), 6);
            due("boys", x.boys(man), -1);
            due("well", x.well(true), -1);
            due("trouble", x.trouble(), 6);
            return;
        }
        int meant = many == 0 ? slow.boys[0] : many;
        due("apart(" + man + ", " + many + ")", x.apart(man, many), slow.apart(meant));
        due("waits(" + man + ", " + many + ", " + later + ")", x.waits(man, many, later), slow.waits(meant, later));
        int least = slow.apart(4);
        int fewest = 4;
        for (int b = 3; b >= 1; b--) {
            fewest = slow.apart(b) <= least ? b : fewest;
        }
        due("boys(" + man + ")", x.boys(man), fewest);
        due("well upper", x.well(false), SlowHouse.power(100 - slow.boys[2], slow.shows.length, false));
        due("well lower", x.well(true), SlowHouse.power(100 - slow.boys[2], slow.shows.length, true));
    }

    private void draws() {
        int man = anyMan();
        int seed = random.nextInt(65537);
        slow.seed = seed;
        slow.night(man, -1);
        due("dark(" + man + ", " + seed + ")", x.dark(man, seed), SlowHouse.sum(slow.black) + slow.snapped);
        int n = 1 + random.nextInt(20);
        int best = -1;
        int least = Integer.MAX_VALUE;
        for (int m = 0; m < slow.men.size(); m++) {
            slow.seed = seed;
            int all = 0;
            for (int i = 0; i < n; i++) {
                slow.night(m, -1);
                all += slow.waste() + slow.snapped;
            }
            if (all < least) {
                least = all;
                best = m;
            }
        }
        due("bestMan(" + seed + ", " + n + ")", x.bestMan(seed, n), best);
    }

    private void act() {
        SlowHouse before = slow.copy();
        int p = anyPlace();
        switch (random.nextInt(8)) {
            case 0:
            case 1:
                int thread = random.nextInt(random.nextBoolean() ? 30 : 200);
                boolean unlike = slow.thread[p] != thread;
                due("threads", x.threads(p, thread) ? 1 : 0, unlike ? 1 : 0);
                slow.thread[p] = thread;
                keep(before, unlike);
                break;
            case 2:
            case 3:
                boolean is = random.nextBoolean();
                boolean turned = slow.trimmed[p] != is;
                due("trim", x.trim(p, is) ? 1 : 0, turned ? 1 : 0);
                slow.trimmed[p] = is;
                keep(before, turned);
                break;
            case 4:
                mend(before);
                break;
            case 5:
                due("undo", x.undo() ? 1 : 0, undos.isEmpty() ? 0 : 1);
                due("trouble", x.trouble(), undos.isEmpty() ? 6 : 0);
                slow = undos.isEmpty() ? slow : undos.removeLast();
                break;
            case 6:
                due("image", x.image(), images.size() < 3 ? images.size() : -1);
                due("trouble", x.trouble(), images.size() < 3 ? 0 : 3);
                if (images.size() < 3) {
                    images.add(before);
                }
                break;
            default:
                int image = random.nextInt(4);
                boolean there = image < images.size();
                due("back(" + image + ")", x.back(image) ? 1 : 0, there ? 1 : 0);
                if (there) {
                    slow = images.get(image).copy();
                    undos.clear();
                }
                break;
        }
        due("size(15)", x.size(15), undos.size());
        due("size(16)", x.size(16), images.size());
    }

    private void mend(SlowHouse before) {
        if (slow.weaks.isEmpty()) {
            due("mend", x.mend(0), -1);
            due("trouble", x.trouble(), 1);
            return;
        }
        int weak = random.nextInt(slow.weaks.size());
        int r = slow.weaks.get(weak)[0];
        boolean can = !slow.mended[weak] && slow.frames[r] >= 6;
        due("mend(" + weak + ")", x.mend(weak), can ? slow.frames[r] - 2 : -1);
        due("trouble", x.trouble(), can ? 0 : 5);
        if (can) {
            slow.mend(weak);
            keep(before, true);
        }
    }

    private void keep(SlowHouse before, boolean changed) {
        due("trouble", x.trouble(), changed ? 0 : 5);
        if (changed) {
            undos.addLast(before);
            if (undos.size() > 12) {
                undos.removeFirst();
            }
        }
    }
}
